/** Promises 21, 22, 24 and 25: what would be, and the digest. */
public final class WouldBeTest {
    private static final int[] NOT_0_TO_7 = {-1, 8, Integer.MIN_VALUE, Integer.MAX_VALUE};

    public static void main(String[] args) {
        promise21FloatWith();
        promise22HangsWith();
        promise24ChangedBy();
        promise25Digest();
        Checks.close();
    }

    private static TreadleLoom sample() {
        return Checks.loom(Checks.row(0, 1, 2, 3), Checks.row(0, 1, 2, 3));
    }

    private static void promise21FloatWith() {
        TreadleLoom loom = sample();
        String before = Checks.stateOf(loom);
        Checks.is("as it is", loom.cloth(3), 3);
        Checks.is("not tied any more", loom.floatWith(0, 0), 4);
        Checks.is("tied, too", loom.floatWith(0, 1), 3);
        Checks.is("a treadle that is not used", loom.floatWith(7, 0), 3);
        Checks.is("nothing is changed", Checks.stateOf(loom), before);
        TreadleLoom plain = Checks.loom(Checks.row(0, 1), Checks.row(0, 1));
        Checks.is("plain", plain.cloth(3), 1);
        Checks.is("two up", plain.floatWith(0, 1), 2);
        Checks.is("without fields", Checks.loom().floatWith(0, 0), 0);
        Checks.is("without picks", Checks.loom(Checks.row(0), Checks.row()).floatWith(7, 7), 0);
        for (int wrong : NOT_0_TO_7) {
            Checks.refuses("floatWith treadle", loom, Checks.INDEX, () -> loom.floatWith(wrong, 0));
            Checks.refuses("floatWith shaft", loom, Checks.INDEX, () -> loom.floatWith(0, wrong));
        }
    }

    private static void promise22HangsWith() {
        TreadleLoom loom = Checks.loom(Checks.row(0, 1, 2), Checks.row(0, 1));
        String before = Checks.stateOf(loom);
        Checks.is("does not", loom.hangs(), false);
        Checks.is("with the end 2 up", loom.hangsWith(0, 2), true);
        Checks.is("with the end 0 always up", loom.hangsWith(1, 0), false);
        Checks.is("nothing is changed", Checks.stateOf(loom), before);
        TreadleLoom plain = Checks.loom(Checks.row(0, 1), Checks.row(0, 1));
        Checks.is("not any more", plain.hangsWith(0, 0), false);
        Checks.is("a treadle that is not used", plain.hangsWith(2, 0), true);
        Checks.is("as it is", plain.hangs(), true);
        Checks.is("without fields", Checks.loom().hangsWith(0, 0), false);
        for (int wrong : NOT_0_TO_7) {
            Checks.refuses("hangsWith treadle", loom, Checks.INDEX, () -> loom.hangsWith(wrong, 0));
            Checks.refuses("hangsWith shaft", loom, Checks.INDEX, () -> loom.hangsWith(0, wrong));
        }
    }

    private static void promise24ChangedBy() {
        TreadleLoom loom = sample();
        String before = Checks.stateOf(loom);
        Checks.is("two ends, two picks", loom.changedBy(0, 1), 4);
        Checks.is("one with itself", loom.changedBy(2, 2), 0);
        Checks.is("with one that is not used", loom.changedBy(3, 7), 1);
        Checks.is("two that are not used", loom.changedBy(5, 6), 0);
        Checks.is("nothing is changed", Checks.stateOf(loom), before);
        loom.tie(0, 3);
        Checks.is("both up stay", loom.changedBy(0, 1), 2);
        Checks.is("without fields", Checks.loom().changedBy(0, 1), 0);
        for (int wrong : NOT_0_TO_7) {
            Checks.refuses("changedBy one", loom, Checks.INDEX, () -> loom.changedBy(wrong, 0));
            Checks.refuses("changedBy other", loom, Checks.INDEX, () -> loom.changedBy(0, wrong));
            Checks.refuses("changedBy both", loom, Checks.INDEX, () -> loom.changedBy(wrong, wrong));
        }
    }

    private static long summed(long... values) {
        long d = 58095;
        for (long value : values) {
            d = d * 31 + value;
        }
        return d;
    }

    private static void promise25Digest() {
        Checks.is("digest of a new one", Checks.loom().digest(), summed(
                0, 0, 0, -1, 0, 0, 0, 0, -1, 0, 0, 0, 0, -1, 0, 0, 0, 0, -1, 0, 0, 0, 0, -1, 0,
                0, 0, 0, -1, 0, 0, 0, 0, -1, 0, 0, 0, 0, -1, 0, 0, 0, 0, -1, 0, 0, 0, 0, -1, 0,
                1, 2, 4, 8, 16, 32, 64, 128,
                0, 0, 0, 0, 0, 0, 0, 0, 0, 0,
                0, 0, 0, 0, 0, 0, 0, 0, 0, 0, 0, 0));
        // The fields # . #, . # . in the colours 1 2 1, 3 1 3.
        TreadleLoom loom = Checks.loom(Checks.row(0, 1, 0), Checks.row(0, 1));
        Checks.write(loom, 2, 1, 1, 1);
        Checks.write(loom, 3, 2, 3);
        Checks.write(loom, 4, 5, 11);
        loom.tie(7, 0);
        Checks.is("digest", loom.digest(), summed(
                3, 3, 0, -1, 2, 0, 1, 0, 2, 2, 0, -1, 2, 0, 1,
                3, 3, 0, -1, 1, 1, 1, 1, 2, 2, 0, -1, 2, 2, 3,
                2, 0, 2, 1, 0, 0, 0, 0, -1, 0, 0, 0, 0, -1, 0,
                0, 0, 0, -1, 0, 0, 0, 0, -1, 0, 0, 0, 0, -1, 0,
                1, 2, 4, 8, 16, 32, 64, 0,
                3, 2, 3, 1, 3, 3, 2, 2, 2, 2,
                2, 2, 1, 3, 2, 0, 0, 0, 0, 3, 1, 2));
        // Five ends over two picks, and one over three: floats of 1, 2, 3 and 5.
        TreadleLoom blocks = Checks.loom(Checks.row(0, 0, 0, 0, 0, 1), Checks.row(0, 0, 1, 1, 1));
        Checks.is("digest of longer floats", blocks.digest(), summed(
                6, 6, 0, -1, 6, 0, 0, 0, 0, 0, 1, 5, 5, 0, -1, 5, 0, 0, 1, 1, 1,
                0, 0, 0, -1, 0, 0, 0, 0, -1, 0, 0, 0, 0, -1, 0, 0, 0, 0, -1, 0,
                0, 0, 0, -1, 0, 0, 0, 0, -1, 0, 0, 0, 0, -1, 0, 0, 0, 0, -1, 0,
                1, 2, 4, 8, 16, 32, 64, 128,
                6, 5, 13, 5, 6, 5, 2, 2, 2, 2,
                6, 5, 1, 6, 5, 9, 4, 3, 30, 0, 0, 0));
        Checks.is("digest again", loom.digest(), loom.digest());
    }
}
