/** The sentences ahead of the promises: how long an object is used, and what a call changes that throws. */
final class UseEdges {
    private static final int CALLS = 512;

    private UseEdges() {
    }

    static void check() {
        Sentences.promisesNothing("What it is", "A loom whose patterns are written.");
        usedFor512Calls();
        changesNothing();
        tokensRefuseTheFirst();
    }

    private static void usedFor512Calls() {
        Sentences.ofUse("An object is used for at most 512 calls after it has been made; what later calls answer is"
                + " free.");
        TreadleLoom loom = new TreadleLoom();
        for (int call = 1; call < CALLS; call += 2) {
            Checks.is("token", loom.token(0, 1), 1);
            if (call + 1 < CALLS) {
                Checks.is("untoken", loom.untoken(0, 1), 0);
            }
        }
        Checks.is("the call 512", loom.digest(), Edges.with(0, 1).digest());
        TreadleLoom full = new TreadleLoom();
        for (int call = 0; call < 400; call++) {
            full.token(call % 10, call < 10 ? 7 : Edges.BACK);
        }
        for (int call = 400; call < CALLS - 1; call++) {
            full.tie(call % 8, call % 256);
        }
        Checks.is("the call 512 of a full one", full.number(9, 0), 7);
        refusedFor511Calls();
    }

    private static void refusedFor511Calls() {
        TreadleLoom loom = Edges.with(4, 6);
        for (int call = 1; call < CALLS - 1; call++) {
            Checks.note(Checks.thrownBy(() -> loom.token(4, 8)) == Checks.ARGUMENT, "token 8 is taken");
        }
        Checks.is("the call 512", loom.digest(), Edges.with(4, 6).digest());
    }

    private static void changesNothing() {
        Sentences.ofTerms("A method that throws an exception changes nothing.");
        TreadleLoom loom = Edges.full(5, 3);
        Checks.write(loom, 0, 45, 1);
        long before = loom.digest();
        Checks.note(Checks.thrownBy(() -> loom.token(5, 1)) == Checks.STATE, "token 41 is taken");
        Checks.note(Checks.thrownBy(() -> loom.untoken(5, 41)) == Checks.ARGUMENT, "41 are taken away");
        Checks.note(Checks.thrownBy(() -> loom.tie(0, 256)) == Checks.ARGUMENT, "256 is taken");
        Checks.note(Checks.thrownBy(() -> loom.twill(4, 5)) == Checks.ARGUMENT, "up 5 of 4 is taken");
        Checks.note(Checks.thrownBy(() -> loom.swap(0, 8)) == Checks.INDEX, "the shaft 8 is taken");
        Checks.note(Checks.thrownBy(() -> loom.changedBy(0, 8)) == Checks.INDEX, "the shaft 8 is taken");
        Checks.note(Checks.thrownBy(() -> loom.floatWith(8, 0)) == Checks.INDEX, "the treadle 8 is taken");
        Checks.is("digest behind them all", loom.digest(), before);
        Checks.is("and they leave nothing over", loom.swap(1, 2), 2);
        Checks.is("the ties", Checks.tiesOf(loom), "[1, 4, 2, 8, 16, 32, 64, 128]");
        Checks.is("the last token is taken away", loom.untoken(5, 39), 1);
        Checks.is("the numbers", Checks.numbersOf(loom, 0), "31");
    }

    private static void tokensRefuseTheFirst() {
        Sentences.ofTerms("If several exceptions apply, the one that is named first is thrown.");
        for (int program : Edges.outside(0, 9)) {
            for (int token : new int[] {-1, 8, 9, 12, 21, 34, 43, 50}) {
                Checks.refused("token", Checks.INDEX, Edges::sample, loom -> loom.token(program, token));
                Checks.refused("lengthWith", Checks.INDEX, Edges::sample, loom -> loom.lengthWith(program, token));
            }
        }
        for (int token : new int[] {-1, 8, 9, 12, 21, 34, 43, 50}) {
            Checks.refused("token 41", Checks.ARGUMENT, () -> Edges.full(5, 1), loom -> loom.token(5, token));
            Checks.refused("lengthWith 41", Checks.ARGUMENT, () -> Edges.full(5, 1), loom -> loom.lengthWith(5, token));
        }
        othersRefuseTheFirst();
    }

    private static void othersRefuseTheFirst() {
        for (int wrong : Edges.outside(0, 9)) {
            for (int other : new int[] {-1, 41, 256}) {
                Checks.refused("untoken", Checks.INDEX, Edges::sample, loom -> loom.untoken(wrong, other));
                Checks.refused("ofProgram", Checks.INDEX, Edges::sample, loom -> loom.ofProgram(wrong, other));
                Checks.refused("tie", Checks.INDEX, Edges::sample, loom -> loom.tie(wrong, other));
                Checks.refused("field, end", Checks.INDEX, Edges::sample, loom -> loom.field(wrong, 0, other));
                Checks.refused("field, pick", Checks.INDEX, Edges::sample, loom -> loom.field(0, wrong, other));
            }
        }
    }
}
