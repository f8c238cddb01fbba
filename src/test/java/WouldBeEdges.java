import java.math.BigInteger;
import java.util.ArrayList;
import java.util.List;

/** The sentences of promises 21, 22, 24 and 25: what would be, and the digest. */
final class WouldBeEdges {
    private WouldBeEdges() {
    }

    static void check() {
        Sentences.promisesNothing("Terms", "Ahead of the calls token, untoken, ofProgram, number, period the interface"
                + " says: ---- programs.");
        Sentences.promisesNothing("Terms", "Ahead of the calls tie, tied, twill, swap the interface says: ---- the"
                + " loom.");
        Sentences.promisesNothing("Terms", "Ahead of the calls cloth, field, floats, where, ups, seen, repeat, hangs,"
                + " reach, meanFloat the interface says: ---- the cloth.");
        nothingIsChanged();
        floatWithAnswers();
        floatWithRefuses();
        hangsWithAnswers();
        hangsWithRefuses();
        changedByAnswers();
        changedByRefuses();
        digestAnswers();
    }

    private static TreadleLoom full() {
        TreadleLoom loom = Edges.widest();
        loom.tie(0, 170);
        return loom;
    }

    private static TreadleLoom endsAlone() {
        return Edges.with(0, 0, 1);
    }

    private static TreadleLoom picksAlone() {
        return Edges.with(1, 0, 1);
    }

    private static void nothingIsChanged() {
        Sentences.ofTerms("Ahead of the calls floatWith, hangsWith, lengthWith, changedBy, digest the interface says:"
                + " ---- what would be (nothing is changed).");
        String due = Checks.stateOf(Edges.sample());
        for (int one = 0; one <= 7; one++) {
            TreadleLoom loom = Edges.sample();
            for (int other = 0; other <= 7; other++) {
                askWhatWouldBe(loom, one, other);
            }
            Checks.is("state", Checks.stateOf(loom), due);
            loom.floatWith(0, 0);
            Checks.is("swap behind floatWith", loom.swap(0, 7), 2);
            loom.changedBy(0, 7);
            Checks.is("ties behind changedBy", Checks.tiesOf(loom), "[132, 10, 6, 8, 16, 32, 64, 1]");
        }
    }

    private static void askWhatWouldBe(TreadleLoom loom, int one, int other) {
        long due = loom.digest();
        loom.floatWith(one, other);
        Checks.is("digest behind floatWith", loom.digest(), due);
        loom.hangsWith(one, other);
        Checks.is("digest behind hangsWith", loom.digest(), due);
        loom.changedBy(one, other);
        Checks.is("digest behind changedBy", loom.digest(), due);
        loom.lengthWith(one + 2, other);
        Checks.is("digest behind lengthWith", loom.digest(), due);
        loom.lengthWith(one, 40 + Math.max(4, other));
        Checks.is("digest behind lengthWith a block", loom.digest(), due);
    }

    /** The loom, and the treadle is tied to the shaft, or, if it is, not any more. */
    private static TreadleLoom tiedWith(TreadleLoom loom, int treadle, int shaft) {
        loom.tie(treadle, loom.tied(treadle) ^ 1 << shaft);
        return loom;
    }

    private static void floatWithAnswers() {
        Sentences.ofPromise(21, "treadle: a TREADLE - shaft: a SHAFT Returns the longest FLOAT (0 without any), if the"
                + " TREADLE was TIED to the SHAFT, too, or, if it is, not any more.");
        for (int treadle = 0; treadle <= 7; treadle++) {
            for (int shaft = 0; shaft <= 7; shaft++) {
                Checks.is("of the sample", Edges.sample().floatWith(treadle, shaft),
                        tiedWith(Edges.sample(), treadle, shaft).cloth(3));
                Checks.is("without both", Edges.empty().floatWith(treadle, shaft), 0);
                Checks.is("without picks", endsAlone().floatWith(treadle, shaft), 0);
                Checks.is("without ends", picksAlone().floatWith(treadle, shaft), 0);
            }
        }
        Checks.is("tied, too", Edges.picture("#.", ".#").floatWith(0, 1), 2);
        Checks.is("not any more", Edges.picture("#...", ".#..").floatWith(1, 1), 4);
        Checks.is("a treadle that is not used", Edges.picture("#...", ".#..").floatWith(7, 1), 3);
        Checks.is("a shaft that is not used", Edges.picture("#...", ".#..").floatWith(0, 7), 3);
        Checks.is("one field", Edges.picture("#").floatWith(0, 0), 1);
        Checks.is("the longest of picks", Edges.widest().floatWith(0, 0), 32);
        TreadleLoom last = Edges.with(0, 7, 7, 7);
        last.token(1, 7);
        Checks.is("the last treadle, the last shaft", last.floatWith(7, 7), 3);
    }

    private static void floatWithRefuses() {
        Sentences.ofPromise(21, "Throws IndexOutOfBoundsException if there is no such TREADLE, or SHAFT");
        for (int good : new int[] {0, 7}) {
            Edges.refusedOutside(0, 7, Checks.INDEX, Edges::sample, (loom, treadle) -> loom.floatWith(treadle, good));
            Edges.refusedOutside(0, 7, Checks.INDEX, Edges::sample, (loom, shaft) -> loom.floatWith(good, shaft));
        }
        Edges.refusedOutside(0, 7, Checks.INDEX, Edges::empty, (loom, both) -> loom.floatWith(both, both));
    }

    private static void hangsWithAnswers() {
        Sentences.ofPromise(22, "treadle: a TREADLE - shaft: a SHAFT Returns whether the cloth would HANG together"
                + " then.");
        for (int treadle = 0; treadle <= 7; treadle++) {
            for (int shaft = 0; shaft <= 7; shaft++) {
                Checks.is("of the sample", Edges.sample().hangsWith(treadle, shaft),
                        tiedWith(Edges.sample(), treadle, shaft).hangs());
                Checks.is("without both", Edges.empty().hangsWith(treadle, shaft), false);
                Checks.is("without picks", endsAlone().hangsWith(treadle, shaft), false);
                Checks.is("without ends", picksAlone().hangsWith(treadle, shaft), false);
                Checks.is("one of each", Edges.picture("#").hangsWith(treadle, shaft), false);
            }
        }
        Checks.is("not any more", Edges.picture("#.", ".#").hangsWith(0, 0), false);
        Checks.is("tied, too, and all are up", Edges.picture("#.", ".#").hangsWith(0, 1), false);
        Checks.is("a treadle that is not used", Edges.picture("#.", ".#").hangsWith(2, 0), true);
        Checks.is("tied, too", Edges.picture("#..", ".#.").hangsWith(0, 2), true);
        Checks.is("not any more, and so it does", Edges.picture("#.#", ".##").hangsWith(0, 2), true);
        TreadleLoom last = Edges.with(0, 0, 7);
        Checks.write(last, 1, 0, 7);
        last.tie(7, 0);
        Checks.is("the last treadle, the last shaft", last.hangsWith(7, 7), true);
    }

    private static void hangsWithRefuses() {
        Sentences.ofPromise(22, "Throws IndexOutOfBoundsException if there is no such TREADLE, or SHAFT");
        for (int good : new int[] {0, 7}) {
            Edges.refusedOutside(0, 7, Checks.INDEX, Edges::sample, (loom, treadle) -> loom.hangsWith(treadle, good));
            Edges.refusedOutside(0, 7, Checks.INDEX, Edges::sample, (loom, shaft) -> loom.hangsWith(good, shaft));
        }
        Edges.refusedOutside(0, 7, Checks.INDEX, Edges::empty, (loom, both) -> loom.hangsWith(both, both));
    }

    /** How many fields of the sample are otherwise when the shafts are in fact swapped. */
    private static int otherwise(int one, int other) {
        TreadleLoom swapped = Edges.sample();
        swapped.swap(one, other);
        String before = Edges.pictureOf(Edges.sample());
        String now = Edges.pictureOf(swapped);
        int many = 0;
        for (int i = 0; i < now.length(); i++) {
            many += now.charAt(i) == before.charAt(i) ? 0 : 1;
        }
        return many;
    }

    private static void changedByAnswers() {
        Sentences.ofPromise(24, "one: a SHAFT - other: a SHAFT Returns on how many FIELDS it would be otherwise whether"
                + " the END is UP, with swap().");
        for (int one = 0; one <= 7; one++) {
            for (int other = 0; other <= 7; other++) {
                Checks.is("of the sample", Edges.sample().changedBy(one, other), otherwise(one, other));
                Checks.is("without both", Edges.empty().changedBy(one, other), 0);
                Checks.is("without picks", endsAlone().changedBy(one, other), 0);
                Checks.is("without ends", picksAlone().changedBy(one, other), 0);
            }
            Checks.is("one with itself", Edges.widest().changedBy(one, one), 0);
        }
        Checks.is("two ends, two picks", Edges.picture("#.", ".#").changedBy(0, 1), 4);
        Checks.is("both are up, or none", Edges.picture("##", "..").changedBy(0, 1), 0);
        Checks.is("with one that is not used", Edges.picture("#.", ".#").changedBy(1, 7), 1);
        Checks.is("all fields", Edges.widest().changedBy(0, 7), 1024);
        TreadleLoom down = Edges.widest();
        down.tie(0, 128);
        Checks.is("all fields come up", down.changedBy(7, 0), 1024);
    }

    private static void changedByRefuses() {
        Sentences.ofPromise(24, "Throws IndexOutOfBoundsException if there is no such SHAFT");
        for (int good : new int[] {0, 7}) {
            Edges.refusedOutside(0, 7, Checks.INDEX, Edges::sample, (loom, one) -> loom.changedBy(one, good));
            Edges.refusedOutside(0, 7, Checks.INDEX, Edges::sample, (loom, other) -> loom.changedBy(good, other));
        }
        Edges.refusedOutside(0, 7, Checks.INDEX, Edges::empty, (loom, both) -> loom.changedBy(both, both));
    }

    /** The numbers of which the digest is made, by the calls that answer them. */
    private static List<Integer> numbersOf(TreadleLoom loom) {
        List<Integer> numbers = new ArrayList<>();
        for (int program = 0; program <= 9; program++) {
            for (int what = 0; what <= 3; what++) {
                numbers.add(loom.ofProgram(program, what));
            }
            numbers.add(loom.period(program));
            for (int place = 0, length = loom.ofProgram(program, 1); place < length; place++) {
                numbers.add(loom.number(program, place));
            }
        }
        for (int treadle = 0; treadle <= 7; treadle++) {
            numbers.add(loom.tied(treadle));
        }
        numbers.addAll(clothOf(loom));
        return numbers;
    }

    private static List<Integer> clothOf(TreadleLoom loom) {
        List<Integer> numbers = new ArrayList<>();
        for (int what = 0; what <= 9; what++) {
            numbers.add(loom.cloth(what));
        }
        numbers.addAll(List.of(loom.repeat(true), loom.repeat(false), loom.hangs() ? 1 : 0, loom.reach(true),
                loom.reach(false), loom.floats(2), loom.floats(3), loom.floats(5)));
        for (int colour = 0; colour <= 3; colour++) {
            numbers.add(loom.seen(colour));
        }
        return numbers;
    }

    /** Summed without an end to the numbers; only the last 64 bits are taken, as a number with a sign. */
    private static long digestOf(List<Integer> numbers) {
        BigInteger d = BigInteger.valueOf(58095);
        for (int number : numbers) {
            d = d.multiply(BigInteger.valueOf(31)).add(BigInteger.valueOf(number));
        }
        return d.longValue();
    }

    /** Nearly all numbers of the cloth differ, and so would the digest with two of them in another order. */
    private static TreadleLoom manifold() {
        TreadleLoom loom = Edges.with(0, 0, 23, Edges.TWICE, 1, 1, 2);
        Checks.write(loom, 1, 0, 0, 1, 25, 2, 24);
        Checks.write(loom, 2, 1, 3, 2);
        Checks.write(loom, 3, 2, 1, 0, 1, 2, 1, 3);
        Checks.write(loom, 4, 7, 6);
        Checks.write(loom, 9, 44, 44, Edges.CLOSE);
        return loom;
    }

    private static void digestAnswers() {
        Sentences.ofPromise(25, "Computes a checksum. A number d starts with 58095; for each of the following numbers"
                + " v, d becomes d * 31 + v,");
        List<Integer> none = new ArrayList<>();
        for (int program = 0; program <= 9; program++) {
            none.addAll(List.of(0, 0, 0, -1, 0));
        }
        none.addAll(List.of(1, 2, 4, 8, 16, 32, 64, 128));
        for (int many = 0; many < 22; many++) {
            none.add(0);
        }
        Checks.is("digest of a new one", new TreadleLoom().digest(), digestOf(none));
        Sentences.ofPromise(25, "Returns d.");
        Checks.is("digest", Edges.sample().digest(), digestOf(numbersOf(Edges.sample())));
        TreadleLoom loom = Edges.sample();
        loom.digest();
        Checks.is("digest again", loom.digest(), Edges.sample().digest());
        digestTellsEachNumber();
        digestWrapsAround();
    }

    private static void digestTellsEachNumber() {
        Sentences.ofPromise(25, "PROGRAM by PROGRAM ofProgram() of 0 to 3, period(), and each number(); tied() of each"
                + " TREADLE; cloth() of 0 to 9; repeat() over ENDS, then over PICKS; 1 if it HANGS together, otherwise"
                + " 0; reach() of ENDS, then of PICKS; floats() of 2, 3 and 5; seen() of 0 to 3.");
        Checks.is("numbers of the cloth", clothOf(manifold()).toString(),
                "[9, 11, 26, 8, 9, 16, 3, 3, 3, 3, 9, 11, 1, 9, 11, 20, 14, 11, 15, 42, 26, 16]");
        Checks.is("digest", manifold().digest(), digestOf(numbersOf(manifold())));
        TreadleLoom loom = manifold();
        loom.tie(2, 0);
        Checks.is("reach", loom.reach(true) * 100 + loom.reach(false), 907);
        Checks.is("hangs", loom.hangs(), false);
        Checks.is("digest of one that does not hang", loom.digest(), digestOf(numbersOf(loom)));
    }

    private static void digestWrapsAround() {
        Sentences.ofPromise(25, "which wraps around as a 64-bit integer:");
        Checks.is("the widest", full().digest(), digestOf(numbersOf(full())));
        TreadleLoom most = full();
        for (int program = 2; program <= 8; program++) {
            Checks.write(most, program, Edges.thirtyTwo(7));
        }
        List<Integer> numbers = numbersOf(most);
        Checks.is("numbers", numbers.size(), 10 * 5 + 9 * 32 + 8 + 22);
        Checks.is("digest of many numbers", most.digest(), digestOf(numbers));
    }
}
