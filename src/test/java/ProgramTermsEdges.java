/** The sentences of '## Terms' under 1: what programs are compiled to, and their faults. */
final class ProgramTermsEdges {
    private static final int OPEN = Edges.OPEN;
    private static final int CLOSE = Edges.CLOSE;
    private static final int TWICE = Edges.TWICE;
    private static final int BACK = Edges.BACK;
    private static final int MIRROR = Edges.MIRROR;
    private static final int UP = Edges.UP;
    private static final int DOWN = Edges.DOWN;

    private ProgramTermsEdges() {
    }

    static void check() {
        thereAreTenPrograms();
        atMostFortyTokens();
        eachTokenHasItsMeaning();
        readFromLeftToRight();
        aNumberIsAnItem();
        aBlockIsAnItem();
        aGroupIsAnItem();
        timesMakesOneItem();
        backTurnsTheLastItem();
        mirrorIsAnItem();
        upComesRound();
        downComesRound();
        fault1();
        itemsWithoutNumbersAreItems();
        fault2();
        fault3();
        fault4();
        fault5();
        fault5AsItemsChange();
        fault5OfGroups();
        fault6();
        theFirstFaultCounts();
        faultsAtOneToken();
        compiledToNothing();
    }

    private static void thereAreTenPrograms() {
        Sentences.ofTerms("1 PROGRAMS. There are 10: 0 the THREADING, 1 the TREADLING, 2 the COLOURS of ends,"
                + " 3 those of picks, 4 to 9 BLOCKS.");
        for (int program = 0; program <= 9; program++) {
            TreadleLoom loom = Edges.with(program, 1, 2, 3);
            Checks.is("ends by " + program, loom.cloth(0), program == 0 ? 3 : 0);
            Checks.is("picks by " + program, loom.cloth(1), program == 1 ? 3 : 0);
            for (int other = 0; other <= 9; other++) {
                Checks.is("numbers of " + other, loom.ofProgram(other, 1), other == program ? 3 : 0);
            }
        }
        TreadleLoom loom = Edges.picture("#.");
        Checks.write(loom, 2, 5);
        Checks.write(loom, 3, 6);
        Checks.is("colour of the end that is up", loom.field(0, 0, 1), 5);
        Checks.is("colour of the pick", loom.field(1, 0, 1), 6);
        Edges.taken("program 0", Edges::empty, one -> one.token(0, 0));
        Edges.taken("program 9", Edges::empty, one -> one.token(9, 0));
        Edges.refusedOutside(0, 9, Checks.INDEX, Edges::sample, (one, program) -> one.token(program, 0));
    }

    private static void atMostFortyTokens() {
        Sentences.ofTerms("Each is a row of at most 40 TOKENS:");
        for (int program = 0; program <= 9; program++) {
            int own = program;
            TreadleLoom loom = Edges.full(program, 7);
            Checks.is("40 tokens", loom.ofProgram(program, 0), 40);
            Checks.is("the number", Checks.numbersOf(loom, program), "7");
            Checks.refused("token 41", Checks.STATE, () -> Edges.full(own, 7), one -> one.token(own, 7));
        }
    }

    private static void eachTokenHasItsMeaning() {
        Sentences.ofTerms("0 to 7 a NUMBER; 10 OPEN, 11 CLOSE; 22 to 29 TIMES 2 to 9; 30 BACK, 31 MIRROR, 32 UP,"
                + " 33 DOWN; 44 to 49 the BLOCK of that number less 40 (4 to 9).");
        for (int number = 0; number <= 7; number++) {
            Edges.compiles(String.valueOf(number), number);
        }
        for (int times = 2; times <= 9; times++) {
            Edges.compiles("012" + "12".repeat(times - 1), 0, OPEN, 1, 2, CLOSE, 20 + times);
        }
        Edges.compiles("021", 0, OPEN, 1, 2, CLOSE, BACK);
        Edges.compiles("0121", 0, OPEN, 1, 2, CLOSE, MIRROR);
        Edges.compiles("023", 0, OPEN, 1, 2, CLOSE, UP);
        Edges.compiles("001", 0, OPEN, 1, 2, CLOSE, DOWN);
        for (int block = 4; block <= 9; block++) {
            TreadleLoom loom = Edges.with(block, 7, 6);
            Checks.write(loom, 0, 40 + block);
            Edges.compiles(loom, "76", 0);
        }
    }

    private static void readFromLeftToRight() {
        Sentences.ofTerms("To COMPILE one is to read it from left to right. What has come so far in a GROUP (the"
                + " PROGRAM itself is one) is a row of ITEMS, each a row of numbers:");
        Edges.compiles("1223", 1, 2, TWICE, 3);
        Edges.compiles("1233", 1, 2, 3, TWICE);
        Edges.compiles("0", 7, UP);
        Edges.compiles("33", 2, TWICE, UP);
        Edges.compiles("2332", 2, OPEN, 3, TWICE, CLOSE, 2);
        Edges.fails("1@0", TWICE, 2);
    }

    private static void aNumberIsAnItem() {
        Sentences.ofTerms("a NUMBER is one of one number;");
        Edges.compiles("1200", 1, 2, 7, UP, TWICE);
        Edges.compiles("01234567", 0, 1, 2, 3, 4, 5, 6, 7);
        Edges.compiles("7", 7);
        Edges.compiles("12", 1, 2, BACK);
    }

    private static void aBlockIsAnItem() {
        Sentences.ofTerms("a BLOCK one of all numbers to which that is COMPILED;");
        TreadleLoom loom = Edges.with(4, 1, 2, 3);
        Checks.write(loom, 0, 7, 44, BACK);
        Edges.compiles(loom, "7321", 0);
        Checks.write(loom, 5, 44, TWICE, 6);
        Checks.write(loom, 1, 7, 45, UP);
        Edges.compiles(loom, "72342347", 1);
        TreadleLoom most = Edges.with(9, Edges.thirtyTwo(3));
        Checks.write(most, 0, 49, UP);
        Edges.compiles(most, "4".repeat(32), 0);
        Checks.write(most, 9, DOWN);
        Checks.is("which last item the block changes", Checks.numbersOf(most, 0), "3".repeat(32));
    }

    private static void aGroupIsAnItem() {
        Sentences.ofTerms("OPEN begins a GROUP, and as CLOSE ends it, all numbers of its ITEMS together (also none)"
                + " are one ITEM of the GROUP around it.");
        Edges.compiles("0121212", 0, OPEN, 1, 2, CLOSE, 23);
        Edges.compiles("012332", 0, OPEN, 1, OPEN, 2, 3, CLOSE, OPEN, 2, 3, CLOSE, BACK, CLOSE);
        Edges.compiles("0321", 0, OPEN, OPEN, 1, CLOSE, OPEN, 2, 3, CLOSE, CLOSE, BACK);
        Edges.compiles("5", 5, OPEN, CLOSE, TWICE);
        Edges.compiles("5", 5, OPEN, CLOSE, UP);
        Edges.compiles("5", 5, OPEN, OPEN, CLOSE, CLOSE, BACK);
        Edges.compiles("", OPEN, CLOSE);
        Edges.compiles("", OPEN, CLOSE, 29);
        TreadleLoom deepest = new TreadleLoom();
        for (int many = 0; many < 40; many++) {
            deepest.token(2, many < 20 ? OPEN : CLOSE);
        }
        Edges.compiles(deepest, "", 2);
        TreadleLoom deep = new TreadleLoom();
        for (int many = 0; many < 39; many++) {
            deep.token(2, many < 19 ? OPEN : many == 19 ? 6 : CLOSE);
        }
        deep.token(2, 29);
        Edges.compiles(deep, "666666666", 2);
    }

    private static void timesMakesOneItem() {
        Sentences.ofTerms("TIMES n makes the last ITEM n times itself, one behind the other, one ITEM still;");
        Edges.compiles("500", 5, 0, TWICE);
        Edges.compiles("5000000000", 5, 0, 29);
        Edges.compiles("501200120", 5, OPEN, 0, 1, 2, 0, CLOSE, TWICE);
        Edges.compiles("50101010101", 5, OPEN, 0, 1, CLOSE, 25);
        Edges.compiles("5101010", 5, OPEN, 0, 1, CLOSE, 23, BACK);
        Edges.compiles("5000000", 5, 0, 23, TWICE);
        Edges.compiles("51212", 5, OPEN, 0, 1, CLOSE, TWICE, UP);
    }

    private static void backTurnsTheLastItem() {
        Sentences.ofTerms("BACK turns the order of its numbers round;");
        Edges.compiles("5210", 5, OPEN, 0, 1, 2, CLOSE, BACK);
        Edges.compiles("53210", 5, OPEN, 0, 1, 2, 3, CLOSE, BACK);
        Edges.compiles("50", 5, 0, BACK);
        Edges.compiles("5", 5, OPEN, CLOSE, BACK);
        Edges.compiles("01", OPEN, 0, 1, CLOSE, BACK, BACK);
        TreadleLoom most = Edges.with(4, OPEN, 1, 29, CLOSE, OPEN, 2, 29, CLOSE, 3, 28, 4, 5, 6, 7, 0, 0);
        Checks.write(most, 0, 44, BACK);
        Edges.compiles(most, "007654" + "3".repeat(8) + "2".repeat(9) + "1".repeat(9), 0);
    }

    private static void mirrorIsAnItem() {
        Sentences.ofTerms("MIRROR puts behind all ITEMS of the GROUP one with all their numbers, from the last number"
                + " but one back to the second number (with less than three: with nothing in it), which is the last"
                + " ITEM then;");
        Edges.compiles("", OPEN, CLOSE, MIRROR);
        Edges.compiles("0", 0, MIRROR);
        Edges.compiles("01", 0, 1, MIRROR);
        Edges.compiles("0121", 0, 1, 2, MIRROR);
        Edges.compiles("012321", 0, 1, 2, 3, MIRROR);
        Edges.compiles("012321", 0, OPEN, 1, 2, CLOSE, 3, MIRROR);
        Edges.compiles("70121", 7, OPEN, 0, 1, 2, MIRROR, CLOSE);
        Edges.compiles("012312", 0, 1, 2, 3, MIRROR, BACK);
        Edges.compiles("01232121", 0, 1, 2, 3, MIRROR, TWICE);
        Edges.compiles("01", 0, 1, MIRROR, UP, 29);
        Edges.compiles("012121", 0, 1, 2, MIRROR, MIRROR);
        Edges.compiles("0".repeat(16) + "1" + "0".repeat(15), 0, 28, TWICE, 1, MIRROR);
    }

    private static void upComesRound() {
        Sentences.ofTerms("UP makes each number of the last ITEM 1 more (0 behind 7),");
        for (int number = 0; number <= 7; number++) {
            Edges.compiles("5" + (number == 7 ? 0 : number + 1), 5, number, UP);
        }
        Edges.compiles("512345670", 5, OPEN, 0, 1, 2, 3, 4, 5, 6, 7, CLOSE, UP);
        Edges.compiles("53", 5, 3, UP, UP, UP, UP, UP, UP, UP, UP);
        Edges.compiles("5", 5, OPEN, CLOSE, UP);
        Edges.compiles("0".repeat(32), 7, 28, 24, UP);
    }

    private static void downComesRound() {
        Sentences.ofTerms("DOWN 1 less (7 ahead of 0).");
        for (int number = 0; number <= 7; number++) {
            Edges.compiles("5" + (number == 0 ? 7 : number - 1), 5, number, DOWN);
        }
        Edges.compiles("570123456", 5, OPEN, 0, 1, 2, 3, 4, 5, 6, 7, CLOSE, DOWN);
        Edges.compiles("53", 5, 3, DOWN, DOWN, DOWN, DOWN, DOWN, DOWN, DOWN, DOWN);
        Edges.compiles("5", 5, OPEN, CLOSE, DOWN);
        Edges.compiles("7".repeat(32), 0, 28, 24, DOWN);
    }

    private static void fault1() {
        Sentences.ofTerms("FAULTS: 1 a TOKEN that asks for an ITEM, TIMES, BACK, UP, DOWN or MIRROR, where there is"
                + " none in its GROUP;");
        for (int token = 22; token <= 33; token++) {
            Edges.fails("1@0", token);
            Edges.fails("1@1", OPEN, token);
            Edges.fails("1@2", 5, OPEN, token, CLOSE);
            Edges.fails("1@4", 5, OPEN, 6, OPEN, token, CLOSE, CLOSE);
            Checks.is("fault with an item", Checks.faultOf(Edges.with(2, 5, token), 2), "0@-1");
        }
        TreadleLoom last = new TreadleLoom();
        for (int many = 0; many < 39; many++) {
            last.token(2, OPEN);
        }
        last.token(2, DOWN);
        Edges.fails(last, "1@39", 2);
    }

    private static void itemsWithoutNumbersAreItems() {
        for (int token = 22; token <= 33; token++) {
            Edges.compiles("", OPEN, CLOSE, token);
            Edges.compiles("", OPEN, OPEN, CLOSE, token, CLOSE);
            Edges.compiles("", 44, token);
            Edges.compiles("", OPEN, CLOSE, MIRROR, token);
            Edges.fails("1@5", OPEN, 1, CLOSE, OPEN, OPEN, token);
        }
    }

    private static void fault2() {
        Sentences.ofTerms("2 CLOSE without OPEN;");
        Edges.fails("2@0", CLOSE);
        Edges.fails("2@1", 1, CLOSE);
        Edges.fails("2@2", OPEN, CLOSE, CLOSE);
        Edges.fails("2@5", OPEN, OPEN, 1, CLOSE, CLOSE, CLOSE);
        Edges.fails("2@0", CLOSE, OPEN);
        TreadleLoom last = Edges.full(2, 1);
        last.untoken(2, 1);
        last.token(2, CLOSE);
        Edges.fails(last, "2@39", 2);
        Edges.compiles("1", OPEN, OPEN, 1, CLOSE, CLOSE);
    }

    private static void fault3() {
        Sentences.ofTerms("3 OPEN without CLOSE (told at the end, if there is no other one; its place is how many"
                + " TOKENS there are);");
        Edges.fails("3@1", OPEN);
        Edges.fails("3@3", OPEN, 1, 2);
        Edges.fails("3@3", OPEN, OPEN, CLOSE);
        Edges.fails("3@2", 1, OPEN);
        Edges.fails("2@3", OPEN, 1, CLOSE, CLOSE, OPEN);
        Edges.fails("1@1", OPEN, TWICE);
        Edges.fails("5@4", OPEN, 0, 28, 24, 1);
        TreadleLoom most = new TreadleLoom();
        for (int many = 0; many < 40; many++) {
            most.token(2, OPEN);
        }
        Edges.fails(most, "3@40", 2);
        TreadleLoom one = new TreadleLoom();
        one.token(2, OPEN);
        for (int many = 1; many < 40; many++) {
            one.token(2, many % 2 == 0 ? CLOSE : OPEN);
        }
        Edges.fails(one, "3@40", 2);
    }

    private static void fault4() {
        Sentences.ofTerms("4 a BLOCK that is named in a BLOCK, if its number is not smaller than that of this one;");
        for (int own = 4; own <= 9; own++) {
            for (int named = 4; named <= 9; named++) {
                TreadleLoom loom = Edges.with(own, 1, 40 + named);
                Checks.is("fault in " + own + " by " + named, Checks.faultOf(loom, own), named < own ? "0@-1" : "4@1");
                Checks.is("numbers", Checks.numbersOf(loom, own), named < own ? "1" : "");
            }
        }
        for (int program = 0; program <= 3; program++) {
            TreadleLoom loom = Edges.with(program, 44, 45, 46, 47, 48, 49);
            Edges.compiles(loom, "", program);
        }
        Edges.fails(Edges.with(4, OPEN, 49), "4@1", 4);
    }

    private static void fault5() {
        Sentences.ofTerms("5 more than 32 numbers in all ITEMS of a GROUP together (as one comes, or changes);");
        Edges.compiles("0".repeat(32), 0, 28, 24);
        Edges.compiles("0".repeat(31) + "1", 0, 25, 26, 0, 1);
        Edges.fails("5@5", 0, 25, 26, 0, 1, 2);
        Edges.fails("5@3", 0, 28, 24, 1);
        Edges.fails("5@3", 0, 28, 24, 1, OPEN);
        TreadleLoom blocks = Edges.with(4, 0, 28, TWICE);
        Checks.write(blocks, 5, 0);
        Checks.write(blocks, 0, 44, 44);
        Edges.compiles(blocks, "0".repeat(32), 0);
        Checks.write(blocks, 1, 45, 44, 44);
        Edges.fails(blocks, "5@2", 1);
        Checks.write(blocks, 2, 44, 44, 45);
        Edges.fails(blocks, "5@2", 2);
        Checks.write(blocks, 3, 44, 44, 46);
        Edges.compiles(blocks, "0".repeat(32), 3);
    }

    private static void fault5AsItemsChange() {
        Edges.compiles("1" + "0".repeat(31), 1, 0, 0, 0, 0, OPEN, 0, 29, 23, CLOSE);
        Edges.compiles("0".repeat(32), OPEN, 0, 28, TWICE, CLOSE, TWICE);
        Edges.fails("5@6", 1, OPEN, 0, 28, TWICE, CLOSE, TWICE);
        Edges.fails("5@2", 0, 28, 25);
        Edges.fails("5@3", 0, 0, 28, 24);
        Edges.fails("5@2", 0, 29, 29);
        Edges.compiles("0".repeat(32), 0, 28, 24, UP, DOWN, BACK);
        Edges.compiles("0".repeat(32), 0, 28, 24, OPEN, CLOSE, 29);
        Edges.fails("5@5", 0, 28, TWICE, 1, 1, MIRROR);
        Edges.fails("5@3", 0, 28, 24, MIRROR);
    }

    private static void fault5OfGroups() {
        String inner = "2".repeat(32);
        Edges.compiles(inner, OPEN, 2, 28, 24, CLOSE);
        Edges.compiles(inner, OPEN, CLOSE, OPEN, 2, 28, 24, CLOSE, OPEN, CLOSE);
        Edges.fails("5@5", 1, OPEN, 2, 28, 24, CLOSE);
        Edges.fails("5@5", OPEN, 2, 28, 24, CLOSE, 1);
        Edges.fails("3@5", 1, OPEN, 2, 28, 24);
        Edges.fails("5@5", 1, OPEN, 2, 28, 24, 2, CLOSE);
        Edges.fails("5@7", 1, OPEN, OPEN, 2, 28, 24, CLOSE, CLOSE);
        Edges.compiles("1" + "2".repeat(31), 1, OPEN, OPEN, 2, 25, 26, CLOSE, 2, CLOSE);
        Edges.compiles("5".repeat(16) + "2".repeat(16), 5, 28, TWICE, OPEN, 2, 28, 2, MIRROR, CLOSE);
        Edges.fails("5@9", 5, 28, TWICE, OPEN, 2, 28, 2, 2, MIRROR, CLOSE);
        Edges.fails("5@12", OPEN, 0, 28, 24, OPEN, 1, 28, 24, OPEN, 2, 28, 24, 3);
        TreadleLoom deepest = new TreadleLoom();
        for (int many = 0; many < 9; many++) {
            Checks.write(deepest, 2, OPEN, 0, 28, 24);
        }
        Checks.write(deepest, 2, OPEN, 0, 28, 25);
        Edges.fails(deepest, "5@39", 2);
    }

    private static void fault6() {
        Sentences.ofTerms("6 a BLOCK that has a FAULT itself.");
        int[][] faulty = {{BACK}, {CLOSE}, {OPEN}, {45}, {0, 28, 24, 1}};
        for (int i = 0; i < faulty.length; i++) {
            TreadleLoom loom = Edges.with(5, faulty[i]);
            Checks.write(loom, 0, 1, 45);
            Checks.write(loom, 7, 45, 45);
            Checks.write(loom, 3, 44, 47);
            Checks.is("the block's fault", loom.ofProgram(5, 2), i + 1);
            Edges.fails(loom, "6@1", 0);
            Edges.fails(loom, "6@0", 7);
            Edges.fails(loom, "6@1", 3);
            loom.untoken(5, 40);
            Edges.compiles(loom, "1", 0);
            Edges.compiles(loom, "", 7);
            Edges.compiles(loom, "", 3);
        }
    }

    private static void theFirstFaultCounts() {
        Sentences.ofTerms("The first one counts,");
        Edges.fails("1@0", BACK, CLOSE);
        Edges.fails("2@0", CLOSE, BACK);
        Edges.fails("2@0", CLOSE, CLOSE);
        Edges.fails("2@1", 7, CLOSE, OPEN, OPEN);
        Edges.fails("1@1", OPEN, BACK, CLOSE, CLOSE);
        Edges.fails("5@3", 0, 28, 24, 1, CLOSE, 2);
        Edges.fails("2@3", 0, 28, 24, CLOSE, 1, 2);
        TreadleLoom loom = Edges.with(5, CLOSE);
        Checks.write(loom, 6, 45, 46);
        Edges.fails(loom, "6@0", 6);
        Checks.write(loom, 7, 47, 45);
        Edges.fails(loom, "4@0", 7);
        Checks.write(loom, 0, 0, 28, 24, 1, 45);
        Edges.fails(loom, "5@3", 0);
    }

    private static void faultsAtOneToken() {
        Sentences.ofTerms("at one TOKEN 4 ahead of 6, that ahead of 5;");
        TreadleLoom loom = Edges.with(6, 0, 28, 25);
        Checks.write(loom, 7, Edges.thirtyTwo(1));
        Checks.write(loom, 4, 46);
        Edges.fails(loom, "4@0", 4);
        Checks.write(loom, 5, 0, 28, 24, 46);
        Edges.fails(loom, "4@3", 5);
        Checks.write(loom, 6, 46);
        Edges.fails(loom, "5@2", 6);
        Checks.write(loom, 0, 0, 28, 24, 46);
        Edges.fails(loom, "6@3", 0);
        Checks.write(loom, 1, 0, 28, 24, 47);
        Edges.fails(loom, "5@3", 1);
        loom.untoken(5, 1);
        loom.token(5, 47);
        Edges.fails(loom, "4@3", 5);
    }

    private static void compiledToNothing() {
        Sentences.ofTerms("a PROGRAM with one is COMPILED to nothing, as is an empty one (a BLOCK that is, is an ITEM"
                + " without numbers).");
        for (int program = 0; program <= 9; program++) {
            Edges.compiles(Edges.empty(), "", program);
            TreadleLoom loom = Edges.with(program, 1, 2, 3);
            loom.token(program, CLOSE);
            Edges.fails(loom, "2@3", program);
            loom.untoken(program, 1);
            Edges.compiles(loom, "123", program);
            loom.untoken(program, 3);
            Edges.compiles(loom, "", program);
        }
        for (int token = 22; token <= 33; token++) {
            TreadleLoom loom = Edges.with(0, 6, 49, token);
            Edges.compiles(loom, "6", 0);
        }
    }
}
