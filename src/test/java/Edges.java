import java.util.function.Consumer;
import java.util.function.Supplier;

/** What the tests of the document's sentences share: looms, tokens, pictures of cloths, and wrong arguments. */
final class Edges {
    static final int OPEN = 10;
    static final int CLOSE = 11;
    static final int TWICE = 22;
    static final int BACK = 30;
    static final int MIRROR = 31;
    static final int UP = 32;
    static final int DOWN = 33;

    private Edges() {
    }

    interface IntCall {
        void on(TreadleLoom loom, int value);
    }

    /** The first on either side of those that a call takes, then others far away. */
    static int[] outside(int least, int greatest) {
        return new int[] {least - 1, greatest + 1, least - 256, greatest + 256, Integer.MIN_VALUE, Integer.MAX_VALUE};
    }

    /** The call refuses each value outside of those from the least to the greatest. */
    static void refusedOutside(int least, int greatest, Class<?> want, Supplier<TreadleLoom> maker, IntCall call) {
        for (int value : outside(least, greatest)) {
            Checks.refused("the call with " + value, want, maker, loom -> call.on(loom, value));
        }
    }

    /** The call with the value is taken. */
    static void taken(String what, Supplier<TreadleLoom> maker, Consumer<TreadleLoom> call) {
        TreadleLoom loom = maker.get();
        Checks.note(Checks.thrownBy(() -> call.accept(loom)) == null, what + " is refused");
    }

    static TreadleLoom empty() {
        return new TreadleLoom();
    }

    /** Something in each program, a fault in one, and ties of its own: 5 ends, 4 picks. */
    static TreadleLoom sample() {
        TreadleLoom loom = new TreadleLoom();
        Checks.write(loom, 4, 1, 2);
        Checks.write(loom, 5, 44, BACK);
        Checks.write(loom, 6, 3, CLOSE);
        Checks.write(loom, 7, OPEN, CLOSE);
        Checks.write(loom, 8, 47, 4, UP);
        Checks.write(loom, 9, 46);
        Checks.write(loom, 0, 0, 44, 0, 3);
        Checks.write(loom, 1, 0, 44, 1);
        Checks.write(loom, 2, 5, 6);
        Checks.write(loom, 3, 1, 2, 3);
        loom.tie(0, 5);
        loom.tie(1, 10);
        loom.tie(2, 6);
        return loom;
    }

    /** 32 ends over 32 picks, all of one shaft and one treadle. */
    static TreadleLoom widest() {
        return Checks.loom(thirtyTwo(0), thirtyTwo(0));
    }

    /** The tokens for 32 numbers, each this one. */
    static int[] thirtyTwo(int number) {
        return new int[] {number, 28, 24};
    }

    /** A row of 40 tokens: the number, and what leaves it alone. */
    static TreadleLoom full(int program, int number) {
        TreadleLoom loom = new TreadleLoom();
        writeFull(loom, program, number);
        return loom;
    }

    static void writeFull(TreadleLoom loom, int program, int number) {
        loom.token(program, number);
        for (int many = 1; many < 40; many++) {
            loom.token(program, BACK);
        }
    }

    static TreadleLoom with(int program, int... tokens) {
        TreadleLoom loom = new TreadleLoom();
        Checks.write(loom, program, tokens);
        return loom;
    }

    /** A loom whose cloth is as the picture: a line for each pick, # where the end is up; 8 by 8 at most. */
    static TreadleLoom picture(String... lines) {
        TreadleLoom loom = new TreadleLoom();
        for (int end = 0; end < lines[0].length(); end++) {
            loom.token(0, end);
        }
        for (int pick = 0; pick < lines.length; pick++) {
            int shafts = 0;
            for (int end = 0; end < lines[pick].length(); end++) {
                shafts += lines[pick].charAt(end) == '#' ? 1 << end : 0;
            }
            loom.tie(pick, shafts);
            loom.token(1, pick);
        }
        return loom;
    }

    /** The cloth as such a picture, its lines joined by a slash. */
    static String pictureOf(TreadleLoom loom) {
        StringBuilder lines = new StringBuilder();
        int ends = loom.cloth(0);
        int picks = loom.cloth(1);
        for (int pick = 0; pick < picks; pick++) {
            lines.append(pick == 0 ? "" : "/");
            for (int end = 0; end < ends; end++) {
                lines.append(loom.field(end, pick, 0) == 1 ? '#' : '.');
            }
        }
        return lines.toString();
    }

    static void compiles(String want, int... tokens) {
        compiles(with(2, tokens), want, 2);
    }

    static void compiles(TreadleLoom loom, String want, int program) {
        Checks.is("numbers", Checks.numbersOf(loom, program), want);
        Checks.is("fault", Checks.faultOf(loom, program), "0@-1");
    }

    /** The tokens have that fault, as "1@0", and are compiled to nothing. */
    static void fails(String want, int... tokens) {
        fails(with(2, tokens), want, 2);
    }

    static void fails(TreadleLoom loom, String want, int program) {
        Checks.is("fault", Checks.faultOf(loom, program), want);
        Checks.is("numbers", Checks.numbersOf(loom, program), "");
    }
}
