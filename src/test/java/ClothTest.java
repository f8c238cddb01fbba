/** Promises 11 to 20: the cloth. */
public final class ClothTest {
    private static final int[] ALL_OF_ONE = {0, 28, 24};

    public static void main(String[] args) {
        promise11Cloth();
        promise12Field();
        promise13Floats();
        promise14Where();
        promise15Ups();
        promise16Seen();
        promise17Repeat();
        promise18Hangs();
        promise19Reach();
        promise20MeanFloat();
        theWidestCloth();
        Checks.close();
    }

    /**
     * <pre>
     *          end 0 1 2 3 4
     *   pick 0     # . # # .
     *   pick 1     . # . . #
     *   pick 2     . # # . .
     *   pick 3     . # . . #
     * </pre>
     */
    private static TreadleLoom sample() {
        TreadleLoom loom = Checks.loom(Checks.row(0, 1, 2, 0, 3), Checks.row(0, 1, 2, 1));
        loom.tie(0, 5);
        loom.tie(1, 10);
        loom.tie(2, 6);
        return loom;
    }

    private static TreadleLoom endsAlone() {
        return Checks.loom(Checks.row(0, 1, 1), Checks.row());
    }

    private static TreadleLoom picksAlone() {
        return Checks.loom(Checks.row(), Checks.row(2, 1, 2, 0));
    }

    private static void clothIs(TreadleLoom loom, int... due) {
        for (int what = 0; what < due.length; what++) {
            Checks.is("cloth " + what, loom.cloth(what), due[what]);
        }
    }

    private static void promise11Cloth() {
        TreadleLoom loom = sample();
        clothIs(loom, 5, 4, 9, 3, 7, 8, 4, 3, 4, 3);
        clothIs(endsAlone(), 3, 0, 0, 0, 0, 0, 2, 0, 1, 0);
        clothIs(picksAlone(), 0, 4, 0, 0, 0, 0, 0, 3, 0, 1);
        clothIs(Checks.loom(Checks.row(5), Checks.row(5)), 1, 1, 1, 1, 1, 0, 1, 1, 1, 1);
        clothIs(Checks.loom(Checks.row(5), Checks.row(4)), 1, 1, 0, 1, 0, 1, 1, 1, 1, 1);
        TreadleLoom same = Checks.loom(Checks.row(0, 1, 2), Checks.row(0, 1));
        same.tie(0, 3);
        same.tie(1, 3);
        clothIs(same, 3, 2, 4, 2, 2, 2, 3, 2, 2, 1);
        for (int what : new int[] {-1, 10, Integer.MIN_VALUE, Integer.MAX_VALUE}) {
            Checks.refuses("cloth what", loom, Checks.ARGUMENT, () -> loom.cloth(what));
        }
    }

    private static void promise12Field() {
        TreadleLoom loom = sample();
        String[] ups = {"10110", "01001", "01100", "01001"};
        String[] lengths = {"11111", "13221", "13122", "13221"};
        for (int pick = 0; pick < 4; pick++) {
            for (int end = 0; end < 5; end++) {
                Checks.is("up " + end + " " + pick, loom.field(end, pick, 0), ups[pick].charAt(end) - '0');
                Checks.is("float " + end + " " + pick, loom.field(end, pick, 2), lengths[pick].charAt(end) - '0');
                Checks.is("colour without colours", loom.field(end, pick, 1), 0);
            }
        }
        Checks.write(loom, 2, 5);
        Checks.is("one colour for all ends", loom.field(4, 1, 1), 5);
        Checks.clear(loom, 2);
        coloursGoRound(loom, ups);
        fieldRefuses(loom);
    }

    private static void coloursGoRound(TreadleLoom loom, String[] ups) {
        Checks.write(loom, 2, 6, 7);
        Checks.write(loom, 3, 1, 2, 3);
        for (int pick = 0; pick < 4; pick++) {
            for (int end = 0; end < 5; end++) {
                int due = ups[pick].charAt(end) == '1' ? 6 + end % 2 : 1 + pick % 3;
                Checks.is("colour " + end + " " + pick, loom.field(end, pick, 1), due);
            }
        }
    }

    private static void fieldRefuses(TreadleLoom loom) {
        for (int end : new int[] {-1, 5, Integer.MIN_VALUE, Integer.MAX_VALUE}) {
            Checks.refuses("field end", loom, Checks.INDEX, () -> loom.field(end, 0, 0));
            Checks.refuses("field end first", loom, Checks.INDEX, () -> loom.field(end, 0, 3));
        }
        for (int pick : new int[] {-1, 4, Integer.MIN_VALUE, Integer.MAX_VALUE}) {
            Checks.refuses("field pick", loom, Checks.INDEX, () -> loom.field(0, pick, 0));
            Checks.refuses("field pick first", loom, Checks.INDEX, () -> loom.field(0, pick, -1));
        }
        for (int what : new int[] {-1, 3, Integer.MIN_VALUE, Integer.MAX_VALUE}) {
            Checks.refuses("field what", loom, Checks.ARGUMENT, () -> loom.field(4, 3, what));
        }
        TreadleLoom ends = endsAlone();
        Checks.refuses("field without picks", ends, Checks.INDEX, () -> ends.field(0, 0, 0));
    }

    private static void promise13Floats() {
        TreadleLoom loom = sample();
        Checks.is("floats 1", loom.floats(1), 15);
        Checks.is("floats 2", loom.floats(2), 4);
        Checks.is("floats 3", loom.floats(3), 1);
        Checks.is("floats 4", loom.floats(4), 0);
        Checks.is("floats 32", loom.floats(32), 0);
        Checks.is("floats without fields", endsAlone().floats(1), 0);
        for (int length : new int[] {0, 33, -1, Integer.MIN_VALUE, Integer.MAX_VALUE}) {
            Checks.refuses("floats length", loom, Checks.ARGUMENT, () -> loom.floats(length));
        }
    }

    private static void promise14Where() {
        TreadleLoom loom = sample();
        Checks.is("where 1 of ends", loom.where(1, true), 0);
        Checks.is("where 2 of ends", loom.where(2, true), 101);
        Checks.is("where 3 of ends", loom.where(3, true), 101);
        Checks.is("where 4 of ends", loom.where(4, true), -1);
        Checks.is("where 1 of picks", loom.where(1, false), 100);
        Checks.is("where 2 of picks", loom.where(2, false), 201);
        Checks.is("where 3 of picks", loom.where(3, false), -1);
        Checks.is("where without fields", picksAlone().where(1, false), -1);
        // # . # # #, so that a shorter float lies ahead of the one that is meant
        TreadleLoom later = Checks.loom(Checks.row(0), Checks.row(0, 1, 0, 0, 0));
        Checks.is("where 2 behind a shorter one", later.where(2, true), 2);
        TreadleLoom across = Checks.loom(Checks.row(1, 0, 1, 1), Checks.row(1, 0));
        Checks.is("where 2 across behind a shorter one", across.where(2, false), 201);
        for (int length : new int[] {0, 33, -1, Integer.MIN_VALUE, Integer.MAX_VALUE}) {
            Checks.refuses("where length", loom, Checks.ARGUMENT, () -> loom.where(length, true));
            Checks.refuses("where length", loom, Checks.ARGUMENT, () -> loom.where(length, false));
        }
    }

    private static void promise15Ups() {
        TreadleLoom loom = sample();
        int[] ofEnds = {1, 3, 2, 1, 2};
        int[] ofPicks = {3, 2, 2, 2};
        for (int end = 0; end < 5; end++) {
            Checks.is("ups of the end " + end, loom.ups(end, true), ofEnds[end]);
        }
        for (int pick = 0; pick < 4; pick++) {
            Checks.is("ups of the pick " + pick, loom.ups(pick, false), ofPicks[pick]);
        }
        for (int end : new int[] {-1, 5, Integer.MIN_VALUE, Integer.MAX_VALUE}) {
            Checks.refuses("ups end", loom, Checks.INDEX, () -> loom.ups(end, true));
        }
        for (int pick : new int[] {-1, 4, Integer.MIN_VALUE, Integer.MAX_VALUE}) {
            Checks.refuses("ups pick", loom, Checks.INDEX, () -> loom.ups(pick, false));
        }
        Checks.is("an end without picks", endsAlone().ups(2, true), 0);
        Checks.is("a pick without ends", picksAlone().ups(3, false), 0);
    }

    private static void promise16Seen() {
        TreadleLoom loom = sample();
        Checks.is("without colours", loom.seen(0), 20);
        Checks.is("another", loom.seen(1), 0);
        Checks.write(loom, 3, 2, 1);
        Checks.is("of ends", loom.seen(0), 9);
        Checks.is("of odd picks", loom.seen(1), 6);
        Checks.is("of even picks", loom.seen(2), 5);
        Checks.write(loom, 2, 7, 1);
        Checks.is("of even ends", loom.seen(7), 5);
        Checks.is("of odd ends and odd picks", loom.seen(1), 10);
        Checks.is("none now", loom.seen(0), 0);
        Checks.is("without fields", endsAlone().seen(0), 0);
        for (int colour : new int[] {-1, 8, Integer.MIN_VALUE, Integer.MAX_VALUE}) {
            Checks.refuses("seen colour", loom, Checks.ARGUMENT, () -> loom.seen(colour));
        }
    }

    private static void promise17Repeat() {
        TreadleLoom loom = Checks.loom(Checks.row(0, 1, 2, 3, 0, 1), Checks.row(0, 1, 0, 1, 0));
        Checks.is("over ends", loom.repeat(true), 4);
        Checks.is("over picks", loom.repeat(false), 2);
        Checks.write(loom, 2, 1, 2, 3, 4, 5, 6);
        Checks.is("colours aside", loom.repeat(true), 4);
        loom.tie(0, 5);
        loom.tie(1, 10);
        Checks.is("by fields, not by shafts", loom.repeat(true), 2);
        loom.tie(1, 5);
        Checks.is("by fields, not by treadles", loom.repeat(false), 1);
        Checks.is("no repeat: all ends", sample().repeat(true), 5);
        Checks.is("a part of a repeat counts", sample().repeat(false), 4);
        Checks.is("without picks", endsAlone().repeat(true), 0);
        Checks.is("without picks", endsAlone().repeat(false), 0);
        Checks.is("without ends", picksAlone().repeat(true), 0);
        Checks.is("without ends", picksAlone().repeat(false), 0);
        Checks.is("one of each", Checks.loom(Checks.row(0), Checks.row(0)).repeat(true), 1);
    }

    private static void promise18Hangs() {
        Checks.is("plain weave", Checks.loom(Checks.row(0, 1), Checks.row(0, 1)).hangs(), true);
        Checks.is("new", Checks.loom().hangs(), false);
        Checks.is("without picks", endsAlone().hangs(), false);
        Checks.is("without ends", picksAlone().hangs(), false);
        Checks.is("one of each, up", Checks.loom(Checks.row(0), Checks.row(0)).hangs(), false);
        Checks.is("one of each, down", Checks.loom(Checks.row(1), Checks.row(0)).hangs(), false);
        Checks.is("one end", Checks.loom(Checks.row(0), Checks.row(0, 1)).hangs(), false);
        TreadleLoom loom = Checks.loom(Checks.row(0, 1, 2), Checks.row(0, 1));
        Checks.is("an end that is never up", loom.hangs(), false);
        loom.tie(0, 5);
        loom.tie(1, 6);
        Checks.is("an end that is always up", loom.hangs(), false);
        loom.tie(1, 2);
        Checks.is("mended", loom.hangs(), true);
        // Two plain weaves, one lying over the other: each hangs together, the whole does not.
        TreadleLoom two = Checks.loom(Checks.row(0, 1, 2, 3), Checks.row(0, 1, 2, 3));
        two.tie(0, 1);
        two.tie(1, 2);
        two.tie(2, 7);
        two.tie(3, 11);
        Checks.is("two layers", two.hangs(), false);
        two.tie(2, 5);
        Checks.is("stitched together", two.hangs(), true);
    }

    private static void promise19Reach() {
        reachIs(Checks.loom(), 0, 0);
        reachIs(endsAlone(), 0, 0);
        reachIs(picksAlone(), 0, 0);
        reachIs(Checks.loom(Checks.row(0, 1), Checks.row(0, 1)), 2, 2);
        reachIs(Checks.loom(Checks.row(2, 0, 1), Checks.row(0, 1)), 1, 0);
        reachIs(Checks.loom(Checks.row(0, 1, 2), Checks.row(0, 1)), 3, 2);
        TreadleLoom loom = Checks.loom(Checks.row(0, 1, 2), Checks.row(0, 1));
        loom.tie(0, 5);
        loom.tie(1, 6);
        reachIs(loom, 2, 2);
        // The upper layer comes to nothing below it; the lower one comes to all.
        TreadleLoom two = Checks.loom(Checks.row(0, 1, 2, 3), Checks.row(0, 1, 2, 3));
        two.tie(2, 7);
        two.tie(3, 11);
        reachIs(two, 4, 4);
        TreadleLoom turned = Checks.loom(Checks.row(2, 3, 0, 1), Checks.row(0, 1, 2, 3));
        turned.tie(2, 7);
        turned.tie(3, 11);
        reachIs(turned, 2, 2);
        reachIs(Checks.loom(Checks.row(0, 1, 2, 3), Checks.row(0, 1, 2, 3)), 4, 4);
    }

    private static void reachIs(TreadleLoom loom, int ends, int picks) {
        Checks.is("reach of ends", loom.reach(true), ends);
        Checks.is("reach of picks", loom.reach(false), picks);
    }

    private static void promise20MeanFloat() {
        Checks.is("mean", sample().meanFloat(), 20.0 / 15.0);
        Checks.is("mean of plain weave", Checks.loom(Checks.row(0, 1), Checks.row(0, 1)).meanFloat(), 1.0);
        Checks.is("mean without fields", endsAlone().meanFloat(), 0.0);
        Checks.is("mean of a new one", Checks.loom().meanFloat(), 0.0);
        Checks.is("mean of one", Checks.loom(Checks.row(0), Checks.row(0)).meanFloat(), 1.0);
    }

    private static void theWidestCloth() {
        TreadleLoom loom = Checks.loom(ALL_OF_ONE, ALL_OF_ONE);
        clothIs(loom, 32, 32, 1024, 32, 32, 0, 1, 1, 1, 1);
        Checks.is("floats 32", loom.floats(32), 32);
        Checks.is("where 32 of ends", loom.where(32, true), 0);
        Checks.is("where 1 of picks", loom.where(1, false), -1);
        Checks.is("float at the corner", loom.field(31, 31, 2), 32);
        Checks.is("ups of the last end", loom.ups(31, true), 32);
        Checks.is("ups of the last pick", loom.ups(31, false), 32);
        Checks.is("mean", loom.meanFloat(), 32.0);
        reachIs(loom, 1, 32);
        loom.tie(0, 0);
        clothIs(loom, 32, 32, 0, 32, 0, 32, 1, 1, 1, 1);
        Checks.is("where 32 of picks", loom.where(32, false), 0);
        Checks.is("float at the corner", loom.field(31, 31, 2), 32);
        Checks.is("ups of the last pick", loom.ups(31, false), 0);
        reachIs(loom, 1, 0);
        TreadleLoom last = Checks.loom(Checks.row(0, 28, 24, 22), Checks.row(0));
        Checks.is("too wide", last.cloth(0), 0);
        int[] twoByTwo = {10, 0, 1, 11, 28, 22};
        TreadleLoom plain = Checks.loom(twoByTwo, twoByTwo);
        clothIs(plain, 32, 32, 512, 1, 512, 512, 2, 2, 2, 2);
        Checks.is("the widest plain weave hangs", plain.hangs(), true);
        reachIs(plain, 32, 32);
        Checks.is("repeat", plain.repeat(true), 2);
        Checks.is("where of picks", plain.where(1, false), 100);
    }
}
