/** The sentences of promises 1 to 6 and 23: programs. */
final class ProgramEdges {
    private static final int OPEN = Edges.OPEN;
    private static final int CLOSE = Edges.CLOSE;
    private static final int TWICE = Edges.TWICE;
    private static final int BACK = Edges.BACK;
    private static final int MIRROR = Edges.MIRROR;
    private static final int UP = Edges.UP;

    private ProgramEdges() {
    }

    static void check() {
        newObject();
        tokenAdds();
        tokenTakes();
        tokenRefuses();
        untokenTakesAway();
        untokenTakesAtMost();
        untokenRefuses();
        ofProgramAnswers();
        ofProgramRefuses();
        numberAnswers();
        numberRefuses();
        periodAnswers();
        periodRefuses();
        lengthWithAnswers();
        lengthWithRefuses();
    }

    private static boolean isToken(int token) {
        return token >= 0 && token <= 7 || token == 10 || token == 11 || token >= 22 && token <= 29
                || token >= 30 && token <= 33 || token >= 44 && token <= 49;
    }

    private static void newObject() {
        Sentences.ofPromise(1, "Creates a loom with empty PROGRAMS.");
        for (int program = 0; program <= 9; program++) {
            int own = program;
            TreadleLoom loom = new TreadleLoom();
            Checks.is("tokens", loom.ofProgram(program, 0), 0);
            Checks.is("numbers", loom.ofProgram(program, 1), 0);
            Checks.is("fault", Checks.faultOf(loom, program), "0@-1");
            Checks.is("period", loom.period(program), 0);
            Checks.refused("number", Checks.INDEX, TreadleLoom::new, one -> one.number(own, 0));
            Checks.is("first token", loom.token(program, 1), 1);
            Checks.is("of another loom", new TreadleLoom().ofProgram(program, 0), 0);
        }
        Checks.is("ends", new TreadleLoom().cloth(0), 0);
        Checks.is("picks", new TreadleLoom().cloth(1), 0);
    }

    private static void tokenAdds() {
        Sentences.ofPromise(2, "Adds a TOKEN at the end of a PROGRAM.");
        for (int program = 0; program <= 9; program++) {
            TreadleLoom loom = Edges.with(program, 1);
            Checks.is("numbers", Checks.numbersOf(loom, program), "1");
            loom.token(program, 2);
            Checks.is("numbers", Checks.numbersOf(loom, program), "12");
            loom.token(program, UP);
            Checks.is("numbers", Checks.numbersOf(loom, program), "13");
            loom.token(program, CLOSE);
            Checks.is("a fault is added, too", Checks.faultOf(loom, program), "2@3");
            loom.token(program, 4);
            Checks.is("and what comes behind it", loom.ofProgram(program, 0), 5);
            loom.untoken(program, 2);
            Checks.is("numbers", Checks.numbersOf(loom, program), "13");
        }
    }

    private static void tokenTakes() {
        Sentences.ofPromise(2, "program: the PROGRAM - token: the TOKEN Returns how many it has then.");
        for (int program = 0; program <= 9; program++) {
            TreadleLoom loom = new TreadleLoom();
            int many = 0;
            for (int token = 0; token <= 49; token++) {
                if (isToken(token)) {
                    many++;
                    Checks.is("token " + token, loom.token(program, token), many);
                }
            }
            while (many < 40) {
                many++;
                Checks.is("up to 40", loom.token(program, 0), many);
            }
        }
        for (int token : new int[] {0, 7, 10, 11, 22, 29, 30, 33, 44, 49}) {
            Checks.is("token " + token, Edges.sample().token(9, token), 2);
        }
    }

    private static void tokenRefuses() {
        Sentences.ofPromise(2, "Throws IndexOutOfBoundsException if there is no such PROGRAM");
        Edges.refusedOutside(0, 9, Checks.INDEX, Edges::sample, (loom, program) -> loom.token(program, 0));
        Edges.refusedOutside(0, 9, Checks.INDEX, Edges::empty, (loom, program) -> loom.token(program, 49));
        Sentences.ofPromise(2, "Throws IllegalArgumentException if it is none");
        for (int token = -60; token <= 120; token++) {
            int wrong = token;
            if (!isToken(token)) {
                Checks.refused("token " + token, Checks.ARGUMENT, Edges::sample, loom -> loom.token(0, wrong));
            }
        }
        Edges.refusedOutside(0, 49, Checks.ARGUMENT, Edges::sample, (loom, token) -> loom.token(9, token));
        Sentences.ofPromise(2, "Throws IllegalStateException if it has 40");
        for (int program = 0; program <= 9; program++) {
            int own = program;
            Checks.is("token 40", with39(program).token(program, CLOSE), 40);
            for (int token : new int[] {0, 7, OPEN, CLOSE, TWICE, BACK, MIRROR, UP, 44, 49}) {
                Checks.refused("token 41", Checks.STATE, () -> Edges.full(own, 3), loom -> loom.token(own, token));
            }
            TreadleLoom full = Edges.full(program, 3);
            Checks.is("another one has room", full.token((program + 1) % 10, 0), 1);
            full.untoken(program, 1);
            Checks.is("room again", full.token(program, UP), 40);
            Checks.is("its number", Checks.numbersOf(full, program), "4");
        }
        Checks.refused("token 41 behind a fault", Checks.STATE, ProgramEdges::fullOfFaults, loom -> loom.token(3, 0));
    }

    private static TreadleLoom with39(int program) {
        TreadleLoom loom = Edges.full(program, 6);
        loom.untoken(program, 1);
        return loom;
    }

    private static TreadleLoom fullOfFaults() {
        TreadleLoom loom = new TreadleLoom();
        for (int many = 0; many < 40; many++) {
            loom.token(3, CLOSE);
        }
        return loom;
    }

    private static void untokenTakesAway() {
        Sentences.ofPromise(3, "Takes the last TOKENS of a PROGRAM away.");
        for (int program = 0; program <= 9; program++) {
            TreadleLoom loom = Edges.with(program, 1, 2, 3, TWICE, 5);
            loom.untoken(program, 1);
            Checks.is("without the last", Checks.numbersOf(loom, program), "1233");
            loom.untoken(program, 2);
            Checks.is("without the last three", Checks.numbersOf(loom, program), "12");
            loom.untoken(program, 40);
            Checks.is("without all", Checks.numbersOf(loom, program), "");
            loom.token(program, 6);
            Checks.is("with a new one", Checks.numbersOf(loom, program), "6");
        }
        TreadleLoom loom = Edges.sample();
        loom.untoken(4, 1);
        Checks.is("the block 5", Checks.numbersOf(loom, 5), "1");
        Checks.is("the threading", Checks.numbersOf(loom, 0), "0103");
        Checks.is("the cloth", Edges.pictureOf(loom), "#.#./.#.#/.#.#");
        loom.untoken(6, 1);
        Checks.is("without the fault", Checks.numbersOf(loom, 9), "3");
    }

    private static void untokenTakesAtMost() {
        Sentences.ofPromise(3, "program: the PROGRAM - many: how many at most Returns how many it has then.");
        for (int program = 0; program <= 9; program++) {
            Checks.is("1 of 40", Edges.full(program, 1).untoken(program, 1), 39);
            Checks.is("39 of 40", Edges.full(program, 1).untoken(program, 39), 1);
            Checks.is("40 of 40", Edges.full(program, 1).untoken(program, 40), 0);
            Checks.is("40 of 39", with39(program).untoken(program, 40), 0);
            Checks.is("1 of 1", Edges.with(program, 7).untoken(program, 1), 0);
            Checks.is("2 of 1", Edges.with(program, 7).untoken(program, 2), 0);
            Checks.is("1 of none", Edges.empty().untoken(program, 1), 0);
            Checks.is("40 of none", Edges.empty().untoken(program, 40), 0);
            TreadleLoom loom = Edges.with(program, 1, 2, 3, CLOSE);
            Checks.is("1 of 4", loom.untoken(program, 1), 3);
            Checks.is("which stay", loom.ofProgram(program, 0), 3);
        }
    }

    private static void untokenRefuses() {
        Sentences.ofPromise(3, "Throws IndexOutOfBoundsException if there is no such PROGRAM");
        Edges.refusedOutside(0, 9, Checks.INDEX, Edges::sample, (loom, program) -> loom.untoken(program, 1));
        for (int many : Edges.outside(1, 40)) {
            Edges.refusedOutside(0, 9, Checks.INDEX, Edges::sample, (loom, program) -> loom.untoken(program, many));
        }
        Sentences.ofPromise(3, "Throws IllegalArgumentException if many is not 1 to 40");
        for (int program = 0; program <= 9; program++) {
            int own = program;
            Edges.refusedOutside(1, 40, Checks.ARGUMENT, Edges::sample, (loom, many) -> loom.untoken(own, many));
        }
        Edges.refusedOutside(1, 40, Checks.ARGUMENT, Edges::empty, (loom, many) -> loom.untoken(0, many));
        Edges.refusedOutside(1, 40, Checks.ARGUMENT, () -> Edges.full(0, 2), (loom, many) -> loom.untoken(0, many));
    }

    private static void ofProgramAnswers() {
        Sentences.ofPromise(4, "program: a PROGRAM - what: 0 how many TOKENS it has, 1 how many numbers it is COMPILED"
                + " to, 2 its FAULT (0 without one), 3 the place of the TOKEN with that, from 0 (-1 without one)"
                + " Returns that.");
        for (int program = 0; program <= 9; program++) {
            ofProgramIs(Edges.empty(), program, 0, 0, 0, -1);
            ofProgramIs(Edges.with(program, 5), program, 1, 1, 0, -1);
            ofProgramIs(Edges.with(program, Edges.thirtyTwo(5)), program, 3, 32, 0, -1);
            ofProgramIs(Edges.full(program, 5), program, 40, 1, 0, -1);
            ofProgramIs(Edges.with(program, CLOSE), program, 1, 0, 2, 0);
            ofProgramIs(Edges.with(program, 5, 6, OPEN, BACK, 1), program, 5, 0, 1, 3);
        }
        placesOfFaults();
    }

    private static void ofProgramIs(TreadleLoom loom, int program, int... due) {
        for (int what = 0; what <= 3; what++) {
            Checks.is("ofProgram " + program + ", " + what, loom.ofProgram(program, what), due[what]);
        }
    }

    private static void placesOfFaults() {
        TreadleLoom last = with39(7);
        last.token(7, CLOSE);
        ofProgramIs(last, 7, 40, 0, 2, 39);
        TreadleLoom open = with39(7);
        open.token(7, OPEN);
        ofProgramIs(open, 7, 40, 0, 3, 40);
        TreadleLoom many = with39(7);
        many.token(7, 49);
        ofProgramIs(many, 7, 40, 0, 4, 39);
        TreadleLoom named = with39(7);
        named.token(4, 44);
        named.token(7, 44);
        ofProgramIs(named, 7, 40, 0, 6, 39);
        ofProgramIs(Edges.with(7, 0, 28, 24, TWICE), 7, 4, 0, 5, 3);
    }

    private static void ofProgramRefuses() {
        Sentences.ofPromise(4, "Throws IndexOutOfBoundsException if there is no such PROGRAM");
        for (int what = 0; what <= 3; what++) {
            int own = what;
            Edges.refusedOutside(0, 9, Checks.INDEX, Edges::sample, (loom, program) -> loom.ofProgram(program, own));
        }
        for (int what : Edges.outside(0, 3)) {
            Edges.refusedOutside(0, 9, Checks.INDEX, Edges::sample, (loom, program) -> loom.ofProgram(program, what));
        }
        Sentences.ofPromise(4, "Throws IllegalArgumentException if what is not 0 to 3");
        for (int program = 0; program <= 9; program++) {
            int own = program;
            Edges.refusedOutside(0, 3, Checks.ARGUMENT, Edges::sample, (loom, what) -> loom.ofProgram(own, what));
        }
    }

    private static void numberAnswers() {
        Sentences.ofPromise(5, "program: a PROGRAM - place: a place in what it is COMPILED to, from 0 Returns the"
                + " number there.");
        for (int program = 0; program <= 9; program++) {
            TreadleLoom loom = Edges.with(program, 3, 4, 5, 7, UP);
            Checks.is("the first", loom.number(program, 0), 3);
            Checks.is("the second", loom.number(program, 1), 4);
            Checks.is("the last, not as its token", loom.number(program, 3), 0);
            TreadleLoom longest = Edges.with(program, 0, 28, OPEN, 1, 2, CLOSE, 29, 4, 5, 6, 7, 0, 1);
            Checks.is("the place 30", longest.number(program, 30), 0);
            Checks.is("the place 31", longest.number(program, 31), 1);
            Checks.is("the place 0", longest.number(program, 0), 0);
        }
    }

    private static void numberRefuses() {
        Sentences.ofPromise(5, "Throws IndexOutOfBoundsException if there is no such PROGRAM, or place");
        for (int place : new int[] {-1, 0, 1, 32}) {
            Edges.refusedOutside(0, 9, Checks.INDEX, Edges::sample, (loom, program) -> loom.number(program, place));
        }
        Edges.refusedOutside(0, 4, Checks.INDEX, Edges::sample, (loom, place) -> loom.number(0, place));
        Edges.refusedOutside(0, 31, Checks.INDEX, Edges::widest, (loom, place) -> loom.number(1, place));
        for (int place : new int[] {-1, 0, 1, 2, 31, 32, 39, 40}) {
            Checks.refused("nothing", Checks.INDEX, Edges::empty, loom -> loom.number(9, place));
            Checks.refused("a fault", Checks.INDEX, Edges::sample, loom -> loom.number(6, place));
            Checks.refused("an empty group", Checks.INDEX, Edges::sample, loom -> loom.number(7, place));
        }
    }

    private static void periodIs(int want, int... tokens) {
        Checks.is("period", Edges.with(8, tokens).period(8), want);
    }

    private static void periodAnswers() {
        Sentences.ofPromise(6, "program: a PROGRAM Returns after how many numbers what it is COMPILED to comes again:"
                + " the least p above 0 with which each number is that which is p places ahead of it, if there is one;"
                + " 0 for nothing.");
        periodIs(0);
        periodIs(0, OPEN, CLOSE);
        periodIs(0, 1, 1, CLOSE);
        periodIs(1, 5);
        periodIs(1, 5, 5);
        periodIs(2, 5, 6);
        periodIs(2, 5, 6, 5);
        periodIs(3, 5, 6, 6);
        periodIs(4, 5, 6, 5, 7);
        periodIs(5, 5, 6, 5, 6, 7);
        periodIs(2, OPEN, 5, 6, CLOSE, 29, 5);
        for (int program = 0; program <= 9; program++) {
            Checks.is("period of " + program, Edges.with(program, 1, 2, 3, 1).period(program), 3);
        }
        periodOfTheLongest();
    }

    private static void periodOfTheLongest() {
        periodIs(1, Edges.thirtyTwo(7));
        periodIs(32, 0, 25, 26, 0, 1);
        periodIs(32, 1, 0, 25, 26, 0);
        periodIs(31, 0, 1, 25, 26, 0);
        periodIs(17, 0, 28, TWICE, 1, 0, 23, 25);
        periodIs(16, OPEN, 0, 23, 25, 1, CLOSE, TWICE);
    }

    private static void periodRefuses() {
        Sentences.ofPromise(6, "Throws IndexOutOfBoundsException if there is no such PROGRAM");
        Edges.refusedOutside(0, 9, Checks.INDEX, Edges::sample, (loom, program) -> loom.period(program));
        Edges.refusedOutside(0, 9, Checks.INDEX, Edges::empty, (loom, program) -> loom.period(program));
    }

    /** It would be so long; and then it is, and meanwhile nothing is changed. */
    private static void lengthIs(int want, int token, int... tokens) {
        TreadleLoom loom = Edges.with(2, tokens);
        String before = Checks.stateOf(Edges.with(2, tokens));
        Checks.is("lengthWith", loom.lengthWith(2, token), want);
        Checks.is("state", Checks.stateOf(loom), before);
        loom.token(2, token);
        Checks.is("length", loom.ofProgram(2, 1), Math.max(want, 0));
        Checks.is("whether it has a fault", loom.ofProgram(2, 2) != 0, want < 0);
    }

    private static void lengthWithAnswers() {
        Sentences.ofPromise(23, "program: a PROGRAM - token: a TOKEN Returns how many numbers it would be COMPILED to"
                + " with that at its end; -1, if it would have a FAULT.");
        for (int token : new int[] {0, 7}) {
            lengthIs(1, token);
            lengthIs(32, token, 0, 25, 26, 0);
            lengthIs(-1, token, 0, 28, 24);
        }
        for (int token : new int[] {BACK, UP, Edges.DOWN, 44, 49}) {
            lengthIs(32, token, 0, 28, 24);
        }
        for (int token : new int[] {TWICE, 29, MIRROR, OPEN, CLOSE}) {
            lengthIs(-1, token, 0, 28, 24);
        }
        lengthIs(32, CLOSE, OPEN, 0, 28, 24);
        lengthIs(32, TWICE, 0, 28, TWICE);
        lengthIs(18, TWICE, 0, 28, TWICE, 1);
        lengthIs(-1, 23, 0, 28, TWICE);
        lengthIs(32, MIRROR, 0, 28, TWICE, 1);
        lengthIs(-1, MIRROR, 0, 28, TWICE, 1, 1);
        lengthIs(0, TWICE, OPEN, CLOSE);
        lengthIs(0, 49);
        lengthWithFaults();
        lengthWithBlocks();
    }

    private static void lengthWithFaults() {
        for (int token = 22; token <= 33; token++) {
            lengthIs(-1, token);
        }
        lengthIs(-1, OPEN);
        lengthIs(-1, CLOSE);
        lengthIs(-1, 1, 5, CLOSE);
        lengthIs(-1, OPEN, CLOSE);
        lengthIs(-1, 1, OPEN);
        lengthIs(1, CLOSE, OPEN, 1);
        lengthIs(-1, CLOSE, OPEN, OPEN);
    }

    private static void lengthWithBlocks() {
        Checks.is("the block 4 named in itself", Edges.sample().lengthWith(4, 44), -1);
        Checks.is("a greater one", Edges.sample().lengthWith(4, 49), -1);
        Checks.is("a smaller one", Edges.sample().lengthWith(5, 44), 4);
        Checks.is("the block 5 named in itself", Edges.sample().lengthWith(5, 45), -1);
        Checks.is("one without numbers", Edges.sample().lengthWith(0, 47), 5);
        Checks.is("one with a fault", Edges.sample().lengthWith(0, 46), -1);
        Checks.is("one with a fault by another", Edges.sample().lengthWith(0, 49), -1);
        Checks.is("the token 40", with39(2).lengthWith(2, TWICE), 2);
        Checks.is("the token 40, a fault", with39(2).lengthWith(2, CLOSE), -1);
    }

    private static void lengthWithRefuses() {
        Sentences.ofPromise(23, "Throws IndexOutOfBoundsException if there is no such PROGRAM");
        Edges.refusedOutside(0, 9, Checks.INDEX, Edges::sample, (loom, program) -> loom.lengthWith(program, 0));
        for (int token : new int[] {-1, 8, 50}) {
            Edges.refusedOutside(0, 9, Checks.INDEX, Edges::sample, (loom, program) -> loom.lengthWith(program, token));
        }
        Sentences.ofPromise(23, "Throws IllegalArgumentException if it is none");
        for (int token = -60; token <= 120; token++) {
            int wrong = token;
            if (isToken(token)) {
                Edges.taken("token " + token, Edges::sample, loom -> loom.lengthWith(0, wrong));
            } else {
                Checks.refused("token " + token, Checks.ARGUMENT, Edges::sample, loom -> loom.lengthWith(0, wrong));
                Checks.refused("as token 41", Checks.ARGUMENT, () -> Edges.full(9, 1),
                        loom -> loom.lengthWith(9, wrong));
            }
        }
        Edges.refusedOutside(0, 49, Checks.ARGUMENT, Edges::sample, (loom, token) -> loom.lengthWith(9, token));
        Sentences.ofPromise(23, "Throws IllegalStateException if it has 40");
        for (int program = 0; program <= 9; program++) {
            int own = program;
            for (int token : new int[] {0, 7, OPEN, CLOSE, TWICE, BACK, MIRROR, UP, 44, 49}) {
                Checks.refused("token 41", Checks.STATE, () -> Edges.full(own, 3), loom -> loom.lengthWith(own, token));
            }
            Checks.is("another one has room", Edges.full(program, 3).lengthWith((program + 1) % 10, 0), 1);
        }
        Checks.refused("behind a fault", Checks.STATE, ProgramEdges::fullOfFaults, loom -> loom.lengthWith(3, 0));
    }
}
