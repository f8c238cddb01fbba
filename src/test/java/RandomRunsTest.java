import java.util.Random;
import java.util.function.Supplier;

/**
 * Random runs of some 512 calls, after which nothing is promised any more, each answer compared
 * with that of PlainLoom. The seeds are fixed.
 */
public final class RandomRunsTest {
    private static final int RUNS = 400;
    private static final int CALLS = 512;
    private static final int[] WILD = {Integer.MIN_VALUE, Integer.MAX_VALUE, -1, -32, 8, 9, 10, 32, 33, 40, 41, 255,
        256, 1 << 16};

    private final Random random;
    private final TreadleLoom loom = new TreadleLoom();
    private final PlainLoom plain = new PlainLoom();
    private final boolean isGrouped;
    private final StringBuilder told = new StringBuilder();
    private int calls;

    private RandomRunsTest(long seed) {
        random = new Random(seed);
        isGrouped = seed % 2 == 0;
    }

    public static void main(String[] args) {
        for (int seed = 0; seed < RUNS; seed++) {
            Checks.is("run " + seed, new RandomRunsTest(seed).firstDifference(), "");
        }
        Checks.close();
    }

    private String firstDifference() {
        // A step makes two calls of the loom at most.
        while (calls + 2 <= CALLS) {
            String difference = oneCall();
            if (!difference.isEmpty()) {
                return "after" + told + ": " + difference;
            }
        }
        return "";
    }

    /** Mostly a number from 0 to the bound less 1, sometimes one just beside it or far away. */
    private int upTo(int bound) {
        int chance = random.nextInt(60);
        if (chance == 0) {
            return WILD[random.nextInt(WILD.length)];
        }
        if (chance == 1) {
            return random.nextBoolean() ? -1 : bound;
        }
        return random.nextInt(Math.max(1, bound));
    }

    private int program() {
        return random.nextInt(3) == 0 ? upTo(10) : random.nextInt(2);
    }

    private int token() {
        int chance = random.nextInt(40);
        if (chance < 20) {
            return random.nextInt(random.nextBoolean() ? 3 : 8);
        }
        if (chance < 26) {
            return isGrouped ? 10 + random.nextInt(2) : 44 + random.nextInt(6);
        }
        if (chance < 30) {
            return 22 + random.nextInt(3);
        }
        if (chance < 34) {
            return 30 + random.nextInt(4);
        }
        if (chance < 38) {
            return 44 + random.nextInt(3);
        }
        return random.nextInt(52) - 1;
    }

    private int many() {
        return random.nextInt(8) == 0 ? upTo(41) : 1 + random.nextInt(3);
    }

    private int end() {
        return upTo(plain.cloth(0));
    }

    private int pick() {
        return upTo(plain.cloth(1));
    }

    private String oneCall() {
        int choice = random.nextInt(100);
        if (choice < 45) {
            return writingCall();
        }
        if (choice < 60) {
            return tyingCall();
        }
        return askingCall();
    }

    private String writingCall() {
        int p = program();
        int t = token();
        boolean isFaulty = p >= 0 && p < 10 && plain.ofProgram(p, 2) != 0 && plain.ofProgram(p, 2) != 3;
        if (random.nextInt(isFaulty ? 2 : 12) == 0) {
            int many = many();
            return compare("untoken " + p + " " + many, () -> loom.untoken(p, many), () -> plain.untoken(p, many));
        }
        if (random.nextInt(6) == 0) {
            return compare("lengthWith " + p + " " + t, () -> loom.lengthWith(p, t), () -> plain.lengthWith(p, t));
        }
        return compare("token " + p + " " + t, () -> loom.token(p, t), () -> plain.token(p, t));
    }

    private String tyingCall() {
        int a = upTo(8);
        int b = upTo(8);
        int shafts = upTo(256);
        int n = upTo(9);
        switch (random.nextInt(6)) {
            case 0: return compare("twill " + n + " " + b, () -> loom.twill(n, b), () -> plain.twill(n, b));
            case 1: return compare("swap " + a + " " + b, () -> loom.swap(a, b), () -> plain.swap(a, b));
            case 2: return compare("tied " + a, () -> loom.tied(a), () -> plain.tied(a));
            default: return compare("tie " + a + " " + shafts, () -> loom.tie(a, shafts), () -> plain.tie(a, shafts));
        }
    }

    private String askingCall() {
        int a = upTo(8);
        int b = upTo(8);
        int length = random.nextInt(4) == 0 ? upTo(33) : 1 + random.nextInt(4);
        boolean is = random.nextBoolean();
        switch (random.nextInt(12)) {
            case 0: return compare("floats " + length, () -> loom.floats(length), () -> plain.floats(length));
            case 1: return compare("where " + length + is, () -> loom.where(length, is), () -> plain.where(length, is));
            case 2: return compare("seen " + a, () -> loom.seen(a), () -> plain.seen(a));
            case 3: return compare("repeat " + is, () -> loom.repeat(is), () -> plain.repeat(is));
            case 4: return compare("hangs", () -> loom.hangs(), () -> plain.hangs());
            case 5: return compare("reach " + is, () -> loom.reach(is), () -> plain.reach(is));
            case 6: return compare("meanFloat", () -> loom.meanFloat(), () -> plain.meanFloat());
            case 7: return compare("floatWith " + a + " " + b, () -> loom.floatWith(a, b), () -> plain.floatWith(a, b));
            case 8: return compare("hangsWith " + a + " " + b, () -> loom.hangsWith(a, b), () -> plain.hangsWith(a, b));
            case 9: return compare("changedBy " + a + " " + b, () -> loom.changedBy(a, b), () -> plain.changedBy(a, b));
            case 10: return compare("digest", () -> loom.digest(), () -> plain.digest());
            default: return placedCall();
        }
    }

    private String placedCall() {
        int p = program();
        int what = upTo(4);
        int ofCloth = upTo(10);
        int end = end();
        int pick = pick();
        switch (random.nextInt(7)) {
            case 0: return compare("ofProgram " + p + " " + what, () -> loom.ofProgram(p, what),
                    () -> plain.ofProgram(p, what));
            case 1: return compare("number " + p + " " + end, () -> loom.number(p, end), () -> plain.number(p, end));
            case 2: return compare("period " + p, () -> loom.period(p), () -> plain.period(p));
            case 3: return compare("cloth " + ofCloth, () -> loom.cloth(ofCloth), () -> plain.cloth(ofCloth));
            case 4: return compare("ups " + end, () -> loom.ups(end, true), () -> plain.ups(end, true));
            case 5: return compare("ups of pick " + pick, () -> loom.ups(pick, false), () -> plain.ups(pick, false));
            default: return compare("field " + end + " " + pick + " " + what, () -> loom.field(end, pick, what),
                    () -> plain.field(end, pick, what));
        }
    }

    private String compare(String call, Supplier<Object> ofLoom, Supplier<Object> ofPlain) {
        told.append(' ').append(call).append(';');
        calls++;
        String got = answer(ofLoom);
        String due = answer(ofPlain);
        if (!got.equals(due)) {
            return got + ", due is " + due;
        }
        return due.startsWith("throws") ? changeBehind(due) : "";
    }

    private String changeBehind(String thrown) {
        calls++;
        return loom.digest() == plain.digest() ? "" : "something changed behind " + thrown;
    }

    private static String answer(Supplier<Object> call) {
        try {
            return String.valueOf(call.get());
        } catch (RuntimeException e) {
            return "throws " + e.getClass().getName();
        }
    }
}
