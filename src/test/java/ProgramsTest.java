/** Promises 1 to 6 and 23: programs, what they are compiled to, and their faults. */
public final class ProgramsTest {
    private static final int OPEN = 10;
    private static final int CLOSE = 11;
    private static final int TWICE = 22;
    private static final int BACK = 30;
    private static final int MIRROR = 31;
    private static final int UP = 32;
    private static final int DOWN = 33;
    private static final int[] NO_TOKENS = {-1, 8, 9, 12, 21, 34, 43, 50, Integer.MIN_VALUE, Integer.MAX_VALUE};
    private static final int[] NO_PROGRAMS = {-1, 10, Integer.MIN_VALUE, Integer.MAX_VALUE};
    private static final String[] TWO_TO_NINE = {
        "0101", "010101", "01010101", "0101010101", "010101010101", "01010101010101",
        "0101010101010101", "010101010101010101"};

    public static void main(String[] args) {
        promise1NewObject();
        promise2Token();
        promise2TokenRefuses();
        promise3Untoken();
        promise4OfProgram();
        itemsAreCompiled();
        mirrorsAreCompiled();
        blocksAreCompiled();
        faultsAreTold();
        blockFaultsAreTold();
        tooManyNumbersAreTold();
        tooManyNumbersOfBlocksAreTold();
        promise5Number();
        promise6Period();
        promise23LengthWith();
        Checks.close();
    }

    private static void compiles(String want, int... tokens) {
        TreadleLoom loom = Checks.loom();
        Checks.write(loom, 2, tokens);
        Checks.is("compiled", Checks.numbersOf(loom, 2), want);
        Checks.is("fault", Checks.faultOf(loom, 2), "0@-1");
    }

    private static void fails(String want, int... tokens) {
        failsIn(Checks.loom(), want, 3, tokens);
    }

    private static void failsIn(TreadleLoom loom, String want, int program, int... tokens) {
        Checks.clear(loom, program);
        Checks.write(loom, program, tokens);
        Checks.is("fault", Checks.faultOf(loom, program), want);
        Checks.is("numbers", loom.ofProgram(program, 1), 0);
        Checks.is("period", loom.period(program), 0);
        Checks.is("tokens", loom.ofProgram(program, 0), tokens.length);
    }

    private static void promise1NewObject() {
        TreadleLoom loom = Checks.loom();
        for (int program = 0; program < 10; program++) {
            Checks.is("new tokens", loom.ofProgram(program, 0), 0);
            Checks.is("new numbers", Checks.numbersOf(loom, program), "");
            Checks.is("new fault", Checks.faultOf(loom, program), "0@-1");
            Checks.is("new period", loom.period(program), 0);
        }
        Checks.is("new ties", Checks.tiesOf(loom), "[1, 2, 4, 8, 16, 32, 64, 128]");
        for (int what = 0; what <= 9; what++) {
            Checks.is("new cloth", loom.cloth(what), 0);
        }
        loom.token(0, 1);
        Checks.is("another object is its own", Checks.loom().ofProgram(0, 0), 0);
    }

    private static void promise2Token() {
        TreadleLoom loom = Checks.loom();
        int many = 0;
        for (int token = 0; token <= 49; token++) {
            boolean isToken = token <= 7 || token == 10 || token == 11
                    || token >= 22 && token <= 33 || token >= 44;
            if (isToken) {
                many++;
                Checks.is("token " + token, loom.token(9, token), many);
            }
        }
        Checks.is("all tokens are taken", loom.ofProgram(9, 0), 28);
        for (int program = 0; program < 9; program++) {
            Checks.is("first token of " + program, loom.token(program, 3), 1);
            Checks.is("its number", Checks.numbersOf(loom, program), "3");
        }
    }

    private static void promise2TokenRefuses() {
        TreadleLoom loom = Checks.loom();
        loom.token(0, 5);
        for (int program : NO_PROGRAMS) {
            Checks.refuses("token, program " + program, loom, Checks.INDEX, () -> loom.token(program, 0));
            Checks.refuses("token, program first", loom, Checks.INDEX, () -> loom.token(program, 8));
        }
        for (int token : NO_TOKENS) {
            Checks.refuses("token " + token, loom, Checks.ARGUMENT, () -> loom.token(0, token));
        }
        for (int many = 2; many <= 40; many++) {
            Checks.is("token up to 40", loom.token(0, MIRROR), many);
        }
        Checks.refuses("token 41", loom, Checks.STATE, () -> loom.token(0, 0));
        Checks.refuses("no token 41", loom, Checks.ARGUMENT, () -> loom.token(0, 9));
        Checks.is("another program has room", loom.token(1, 0), 1);
    }

    private static void promise3Untoken() {
        TreadleLoom loom = Checks.loom();
        Checks.write(loom, 4, 1, 2, 3, TWICE);
        Checks.write(loom, 0, 44);
        Checks.is("untoken 1", loom.untoken(4, 1), 3);
        Checks.is("the last is gone", Checks.numbersOf(loom, 4), "123");
        Checks.is("and for who names it", Checks.numbersOf(loom, 0), "123");
        Checks.is("untoken 2", loom.untoken(4, 2), 1);
        Checks.is("the first stays", Checks.numbersOf(loom, 4), "1");
        for (int program : NO_PROGRAMS) {
            Checks.refuses("untoken program", loom, Checks.INDEX, () -> loom.untoken(program, 1));
            Checks.refuses("untoken program first", loom, Checks.INDEX, () -> loom.untoken(program, 0));
        }
        for (int many : new int[] {0, 41, -1, Integer.MIN_VALUE, Integer.MAX_VALUE}) {
            Checks.refuses("untoken many", loom, Checks.ARGUMENT, () -> loom.untoken(4, many));
        }
        Checks.is("untoken more than there are", loom.untoken(4, 2), 0);
        Checks.is("untoken of none", loom.untoken(4, 40), 0);
        Checks.is("token after that", loom.token(4, 6), 1);
        Checks.is("the new one alone", Checks.numbersOf(loom, 0), "6");
    }

    private static void promise4OfProgram() {
        TreadleLoom loom = Checks.loom();
        Checks.write(loom, 6, 1, 2, TWICE);
        Checks.is("tokens", loom.ofProgram(6, 0), 3);
        Checks.is("numbers", loom.ofProgram(6, 1), 3);
        Checks.is("no fault", loom.ofProgram(6, 2), 0);
        Checks.is("no place", loom.ofProgram(6, 3), -1);
        for (int program : NO_PROGRAMS) {
            Checks.refuses("ofProgram program", loom, Checks.INDEX, () -> loom.ofProgram(program, 0));
            Checks.refuses("ofProgram program first", loom, Checks.INDEX, () -> loom.ofProgram(program, 4));
        }
        for (int what : new int[] {-1, 4, Integer.MIN_VALUE, Integer.MAX_VALUE}) {
            Checks.refuses("ofProgram what", loom, Checks.ARGUMENT, () -> loom.ofProgram(6, what));
        }
    }

    private static void itemsAreCompiled() {
        compiles("");
        compiles("01234567", 0, 1, 2, 3, 4, 5, 6, 7);
        compiles("0111", 0, 1, 23);
        compiles("11111111", 1, TWICE, TWICE, TWICE);
        for (int times = 2; times <= 9; times++) {
            compiles(TWO_TO_NINE[times - 2], OPEN, 0, 1, CLOSE, 20 + times);
        }
        compiles("01010101", OPEN, 0, 1, CLOSE, TWICE, TWICE);
        compiles("210", OPEN, 0, 1, 2, CLOSE, BACK);
        compiles("0124", 0, 1, 2, BACK, 4, BACK);
        compiles("012012", OPEN, 2, 1, 0, CLOSE, TWICE, BACK);
        compiles("0", 7, UP);
        compiles("7", 0, DOWN);
        compiles("670", 6, OPEN, 6, 7, CLOSE, UP);
        compiles("676", 6, OPEN, 0, 7, CLOSE, DOWN);
        compiles("5", 5, OPEN, CLOSE, UP, DOWN, BACK, 29);
        compiles("120", OPEN, OPEN, 1, 2, CLOSE, OPEN, OPEN, 0, CLOSE, CLOSE, CLOSE);
        compiles("5013", 5, OPEN, 0, OPEN, 1, CLOSE, CLOSE, 3);
    }

    private static void mirrorsAreCompiled() {
        compiles("", OPEN, CLOSE, MIRROR);
        compiles("0", 0, MIRROR);
        compiles("01", 0, 1, MIRROR, 29, UP);
        compiles("0121", 0, 1, 2, MIRROR);
        compiles("012321", 0, 1, 2, 3, MIRROR);
        compiles("012312", 0, 1, 2, 3, MIRROR, BACK);
        compiles("01231212", 0, 1, 2, 3, MIRROR, BACK, TWICE);
        compiles("01233", 0, 1, 2, MIRROR, UP, UP, 3);
        compiles("70121", 7, OPEN, 0, 1, 2, MIRROR, CLOSE);
        compiles("70121", 7, OPEN, OPEN, 0, CLOSE, 1, 2, MIRROR, CLOSE);
        compiles("000000000000000011111111111111", 0, 28, TWICE, OPEN, 1, 28, MIRROR, CLOSE);
        compiles("0121012101210121", OPEN, 0, 1, 2, MIRROR, CLOSE, TWICE, TWICE);
        compiles("1233", 1, 2, 3, OPEN, CLOSE, MIRROR, UP);
        compiles("012121", 0, 1, 2, MIRROR, MIRROR);
    }

    private static void blocksAreCompiled() {
        TreadleLoom loom = Checks.loom();
        Checks.write(loom, 0, 44, 44, BACK, UP);
        Checks.is("empty block is an item", Checks.faultOf(loom, 0), "0@-1");
        Checks.write(loom, 4, 0, 1, 2);
        Checks.is("block is one item", Checks.numbersOf(loom, 0), "012321");
        Checks.write(loom, 5, 44, MIRROR);
        Checks.write(loom, 9, 45, OPEN, 44, CLOSE, TWICE);
        Checks.write(loom, 3, 49, 7);
        Checks.is("block in block", Checks.numbersOf(loom, 3), "01210120127");
        Checks.write(loom, 4, DOWN);
        Checks.is("blocks follow", Checks.numbersOf(loom, 3), "01110110117");
        for (int block = 4; block <= 9; block++) {
            Checks.clear(loom, block);
            Checks.write(loom, block, block - 4);
        }
        Checks.clear(loom, 1);
        Checks.write(loom, 1, 44, 45, 46, 47, 48, 49);
        Checks.is("blocks by their tokens", Checks.numbersOf(loom, 1), "012345");
    }

    private static void faultsAreTold() {
        for (int token = 22; token <= 33; token++) {
            fails("1@0", token);
            fails("1@2", 5, OPEN, token);
            fails("1@1", OPEN, token, CLOSE, CLOSE);
        }
        fails("2@0", CLOSE);
        fails("2@2", OPEN, CLOSE, CLOSE);
        fails("2@0", CLOSE, BACK, OPEN);
        fails("3@1", OPEN);
        fails("3@4", OPEN, OPEN, 1, CLOSE);
        fails("3@3", 1, OPEN, 2);
        TreadleLoom loom = Checks.loom();
        failsIn(loom, "3@2", 0, 1, OPEN);
        Checks.write(loom, 0, CLOSE);
        Checks.is("mended", Checks.faultOf(loom, 0), "0@-1");
        Checks.is("mended numbers", Checks.numbersOf(loom, 0), "1");
    }

    private static void blockFaultsAreTold() {
        TreadleLoom loom = Checks.loom();
        for (int own = 4; own <= 9; own++) {
            for (int named = 4; named <= 9; named++) {
                Checks.clear(loom, own);
                Checks.write(loom, own, 1, 40 + named);
                Checks.is("block in a block", Checks.faultOf(loom, own), named >= own ? "4@1" : "0@-1");
                Checks.clear(loom, own);
            }
        }
        Checks.write(loom, 5, CLOSE);
        failsIn(loom, "6@1", 0, 1, 45);
        failsIn(loom, "6@0", 9, 45, 45);
        failsIn(loom, "6@0", 2, 49);
        failsIn(loom, "4@0", 4, 45);
        failsIn(loom, "6@2", 8, 1, 2, 45);
        Checks.write(loom, 7, 46);
        Checks.is("4 is no fault of who names a smaller one", Checks.faultOf(loom, 7), "0@-1");
        Checks.clear(loom, 5);
        Checks.is("6 goes with the block's fault", Checks.faultOf(loom, 0), "0@-1");
        Checks.is("and its numbers come", Checks.numbersOf(loom, 0), "1");
        Checks.is("along the blocks, too", Checks.faultOf(loom, 2), "0@-1");
        Checks.clear(loom, 8);
        Checks.write(loom, 8, 0, 29, 23);
        failsIn(loom, "4@3", 7, 0, 29, TWICE, 48);
    }

    private static void tooManyNumbersAreTold() {
        compiles("00000000000000000000000000000000", 0, 28, 24);
        compiles("00000000000000000000000000011111", 0, 29, 23, 1, 1, 1, 1, 1);
        fails("5@8", 0, 29, 23, 1, 1, 1, 1, 1, 1);
        fails("5@3", 0, 28, 24, 1);
        fails("5@2", 0, 28, 25);
        fails("5@3", OPEN, 0, 28, 25, CLOSE);
        fails("5@5", 1, OPEN, 0, 28, 24, CLOSE);
        fails("5@5", OPEN, 0, 28, 24, CLOSE, 1);
        fails("5@7", OPEN, 0, 28, 24, CLOSE, OPEN, 1, CLOSE, CLOSE);
        compiles("00000000000000001000000000000000", 0, 28, TWICE, 1, MIRROR);
        fails("5@5", 0, 28, TWICE, 1, 2, MIRROR);
        fails("5@3", 0, 28, 24, MIRROR);
        fails("5@3", 0, 28, 24, 1, CLOSE);
        compiles("11111111111111111111111111111111", 0, 28, 24, UP, OPEN, CLOSE, 29, BACK, OPEN, OPEN, CLOSE, CLOSE);
    }

    private static void tooManyNumbersOfBlocksAreTold() {
        TreadleLoom loom = Checks.loom();
        Checks.write(loom, 4, 0, 28, TWICE);
        Checks.write(loom, 0, 44, 44);
        Checks.is("32 of two blocks", loom.ofProgram(0, 1), 32);
        failsIn(loom, "5@2", 0, 44, 44, 44);
        failsIn(loom, "5@2", 8, 1, 44, 44);
        Checks.write(loom, 4, 3);
        failsIn(loom, "5@1", 0, 44, 44);
        Checks.write(loom, 5, 44, TWICE);
        Checks.is("that is the block's fault", Checks.faultOf(loom, 5), "5@1");
        failsIn(loom, "6@0", 0, 45);
    }

    private static void promise5Number() {
        TreadleLoom loom = Checks.loom();
        Checks.write(loom, 8, 4, 5, 6);
        Checks.is("number 0", loom.number(8, 0), 4);
        Checks.is("number 2", loom.number(8, 2), 6);
        for (int place : new int[] {-1, 3, 32, 40, Integer.MIN_VALUE, Integer.MAX_VALUE}) {
            Checks.refuses("number place " + place, loom, Checks.INDEX, () -> loom.number(8, place));
        }
        for (int program : NO_PROGRAMS) {
            Checks.refuses("number program " + program, loom, Checks.INDEX, () -> loom.number(program, 0));
        }
        loom.token(8, CLOSE);
        Checks.refuses("number of a fault", loom, Checks.INDEX, () -> loom.number(8, 0));
    }

    private static void promise6Period() {
        int[][] rows = {{}, {0}, {0, 0}, {0, 1}, {0, 1, 0}, {0, 1, 1, 0}, {0, 1, 2, 0, 1, 2, 0}, {0, 0, 1, 0, 0},
            {3, 3, 3, 3, 2}, {0, 1, 0, 1, 0, 0}};
        int[] periods = {0, 1, 1, 2, 2, 3, 3, 3, 5, 5};
        for (int i = 0; i < rows.length; i++) {
            TreadleLoom loom = Checks.loom();
            Checks.write(loom, i, rows[i]);
            Checks.is("period of row " + i, loom.period(i), periods[i]);
        }
        TreadleLoom loom = Checks.loom();
        for (int program : NO_PROGRAMS) {
            Checks.refuses("period program " + program, loom, Checks.INDEX, () -> loom.period(program));
        }
    }

    private static void promise23LengthWith() {
        TreadleLoom loom = Checks.loom();
        Checks.write(loom, 4, 1, 2, 3);
        Checks.write(loom, 5, CLOSE);
        Checks.write(loom, 0, 0, 44);
        String before = Checks.stateOf(loom);
        Checks.is("with a number", loom.lengthWith(0, 7), 5);
        Checks.is("with a block", loom.lengthWith(0, 44), 7);
        Checks.is("with times", loom.lengthWith(0, 25), 16);
        Checks.is("with times too many", loom.lengthWith(4, 29), 11);
        Checks.is("with mirror", loom.lengthWith(0, MIRROR), 6);
        Checks.is("with back", loom.lengthWith(0, BACK), 4);
        Checks.is("with open", loom.lengthWith(0, OPEN), -1);
        Checks.is("with close", loom.lengthWith(0, CLOSE), -1);
        Checks.is("with a faulty block", loom.lengthWith(0, 45), -1);
        Checks.is("with itself", loom.lengthWith(4, 44), -1);
        Checks.is("with a smaller block", loom.lengthWith(6, 44), 3);
        Checks.is("of an empty one", loom.lengthWith(1, 3), 1);
        Checks.is("of an empty one, an empty block", loom.lengthWith(1, 46), 0);
        Checks.is("with a fault before", loom.lengthWith(5, 1), -1);
        Checks.is("nothing is changed", Checks.stateOf(loom), before);
        Checks.write(loom, 2, 0, 28, 24, OPEN);
        Checks.is("close mends", loom.lengthWith(2, CLOSE), 32);
        Checks.is("times up to 32", loom.lengthWith(3, 0), 1);
        lengthWithRefuses(loom);
    }

    private static void lengthWithRefuses(TreadleLoom loom) {
        for (int program : NO_PROGRAMS) {
            Checks.refuses("lengthWith program", loom, Checks.INDEX, () -> loom.lengthWith(program, 0));
            Checks.refuses("lengthWith program first", loom, Checks.INDEX, () -> loom.lengthWith(program, 9));
        }
        for (int token : NO_TOKENS) {
            Checks.refuses("lengthWith token " + token, loom, Checks.ARGUMENT, () -> loom.lengthWith(0, token));
        }
        Checks.clear(loom, 7);
        for (int many = 0; many < 39; many++) {
            loom.token(7, many == 0 ? 6 : UP);
        }
        Checks.is("the token 40", loom.lengthWith(7, 22), 2);
        loom.token(7, UP);
        Checks.refuses("lengthWith 41", loom, Checks.STATE, () -> loom.lengthWith(7, 0));
        Checks.refuses("lengthWith 41, no token", loom, Checks.ARGUMENT, () -> loom.lengthWith(7, 9));
    }
}
