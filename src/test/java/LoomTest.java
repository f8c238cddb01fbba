/** Promises 7 to 10: the tie-up. */
public final class LoomTest {
    private static final int[] NOT_0_TO_7 = {-1, 8, Integer.MIN_VALUE, Integer.MAX_VALUE};

    public static void main(String[] args) {
        promise7Tie();
        promise8Tied();
        promise9Twill();
        promise10Swap();
        Checks.close();
    }

    private static void promise7Tie() {
        TreadleLoom loom = Checks.loom(Checks.row(0, 1), Checks.row(0, 1));
        Checks.is("tie tells the one before", loom.tie(0, 255), 1);
        Checks.is("tie again", loom.tie(0, 0), 255);
        Checks.is("no end is up on the pick 0", loom.ups(0, false), 0);
        Checks.is("tie 7", loom.tie(7, 3), 128);
        Checks.is("ties", Checks.tiesOf(loom), "[0, 2, 4, 8, 16, 32, 64, 3]");
        for (int treadle : NOT_0_TO_7) {
            Checks.refuses("tie treadle", loom, Checks.INDEX, () -> loom.tie(treadle, 0));
            Checks.refuses("tie treadle first", loom, Checks.INDEX, () -> loom.tie(treadle, 256));
        }
        for (int shafts : new int[] {-1, 256, Integer.MIN_VALUE, Integer.MAX_VALUE}) {
            Checks.refuses("tie shafts", loom, Checks.ARGUMENT, () -> loom.tie(0, shafts));
        }
    }

    private static void promise8Tied() {
        TreadleLoom loom = Checks.loom();
        for (int treadle = 0; treadle < 8; treadle++) {
            Checks.is("tied at first", loom.tied(treadle), 1 << treadle);
            loom.tie(treadle, 200 + treadle);
            Checks.is("tied then", loom.tied(treadle), 200 + treadle);
        }
        for (int treadle : NOT_0_TO_7) {
            Checks.refuses("tied treadle", loom, Checks.INDEX, () -> loom.tied(treadle));
        }
    }

    private static void promise9Twill() {
        TreadleLoom loom = Checks.loom();
        Checks.is("twill of the ties at first", loom.twill(8, 1), 0);
        Checks.is("twill 4 2", loom.twill(4, 2), 8);
        Checks.is("its ties", Checks.tiesOf(loom), "[3, 6, 12, 9, 0, 0, 0, 0]");
        Checks.is("twill again", loom.twill(4, 2), 0);
        Checks.is("twill 4 4", loom.twill(4, 4), 4);
        Checks.is("its ties", Checks.tiesOf(loom), "[15, 15, 15, 15, 0, 0, 0, 0]");
        Checks.is("twill 2 1", loom.twill(2, 1), 4);
        Checks.is("its ties", Checks.tiesOf(loom), "[1, 2, 0, 0, 0, 0, 0, 0]");
        loom.tie(5, 9);
        Checks.is("those that go to none count", loom.twill(2, 1), 1);
        Checks.is("twill 8 8", loom.twill(8, 8), 8);
        Checks.is("its ties", Checks.tiesOf(loom), "[255, 255, 255, 255, 255, 255, 255, 255]");
        Checks.is("twill 3 2", loom.twill(3, 2), 8);
        Checks.is("its ties", Checks.tiesOf(loom), "[3, 6, 5, 0, 0, 0, 0, 0]");
        for (int n : new int[] {1, 9, 0, -1, Integer.MIN_VALUE, Integer.MAX_VALUE}) {
            Checks.refuses("twill n", loom, Checks.ARGUMENT, () -> loom.twill(n, 1));
        }
        for (int up : new int[] {0, 6, -1, Integer.MIN_VALUE, Integer.MAX_VALUE}) {
            Checks.refuses("twill up", loom, Checks.ARGUMENT, () -> loom.twill(5, up));
        }
    }

    private static void promise10Swap() {
        TreadleLoom loom = Checks.loom(Checks.row(0, 3), Checks.row(0, 1));
        Checks.is("swap", loom.swap(0, 3), 2);
        Checks.is("its ties", Checks.tiesOf(loom), "[8, 2, 4, 1, 16, 32, 64, 128]");
        Checks.is("the cloth goes with it", loom.field(1, 0, 0), 1);
        Checks.is("swap of one with itself", loom.swap(5, 5), 0);
        loom.tie(0, 9);
        loom.tie(3, 0);
        Checks.is("both or none is the same set", loom.swap(3, 0), 0);
        Checks.is("swap 1 7", loom.swap(7, 1), 2);
        Checks.is("its ties", Checks.tiesOf(loom), "[9, 128, 4, 0, 16, 32, 64, 2]");
        for (int shaft : NOT_0_TO_7) {
            Checks.refuses("swap one", loom, Checks.INDEX, () -> loom.swap(shaft, 0));
            Checks.refuses("swap other", loom, Checks.INDEX, () -> loom.swap(0, shaft));
            Checks.refuses("swap both", loom, Checks.INDEX, () -> loom.swap(shaft, shaft));
        }
    }
}
