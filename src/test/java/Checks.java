import java.util.Arrays;

/** Counts what is as due, and prints what is not. */
final class Checks {
    static final Class<?> INDEX = IndexOutOfBoundsException.class;
    static final Class<?> ARGUMENT = IllegalArgumentException.class;
    static final Class<?> STATE = IllegalStateException.class;

    private static int passed;
    private static int failed;

    private Checks() {
    }

    static void is(String what, long got, long want) {
        note(got == want, what + " answered " + got + ", due is " + want);
    }

    static void is(String what, double got, double want) {
        note(got == want, what + " answered " + got + ", due is " + want);
    }

    static void is(String what, boolean got, boolean want) {
        note(got == want, what + " answered " + got + ", due is " + want);
    }

    static void is(String what, String got, String want) {
        note(got.equals(want), what + " answered " + got + ", due is " + want);
    }

    /** The call throws just this class, not one below it (those the machine throws), and changes nothing. */
    static void refuses(String what, TreadleLoom loom, Class<?> want, Runnable call) {
        String before = stateOf(loom);
        Class<?> got = thrownBy(call);
        note(got == want, what + " threw " + got + ", due is " + want);
        note(stateOf(loom).equals(before), what + " changed something");
    }

    static Class<?> thrownBy(Runnable call) {
        try {
            call.run();
            return null;
        } catch (RuntimeException e) {
            return e.getClass();
        }
    }

    static TreadleLoom loom() {
        return new TreadleLoom();
    }

    static TreadleLoom loom(int[] threading, int[] treadling) {
        TreadleLoom loom = new TreadleLoom();
        write(loom, 0, threading);
        write(loom, 1, treadling);
        return loom;
    }

    static int[] row(int... numbers) {
        return numbers;
    }

    static void write(TreadleLoom loom, int program, int... tokens) {
        for (int token : tokens) {
            loom.token(program, token);
        }
    }

    static void clear(TreadleLoom loom, int program) {
        loom.untoken(program, 40);
    }

    /** The numbers to which the program is compiled, as digits. */
    static String numbersOf(TreadleLoom loom, int program) {
        StringBuilder digits = new StringBuilder();
        for (int place = 0; place < loom.ofProgram(program, 1); place++) {
            digits.append(loom.number(program, place));
        }
        return digits.toString();
    }

    /** The fault and its place, as "1@0"; "0@-1" without one. */
    static String faultOf(TreadleLoom loom, int program) {
        return loom.ofProgram(program, 2) + "@" + loom.ofProgram(program, 3);
    }

    static String tiesOf(TreadleLoom loom) {
        int[] ties = new int[8];
        for (int treadle = 0; treadle < ties.length; treadle++) {
            ties[treadle] = loom.tied(treadle);
        }
        return Arrays.toString(ties);
    }

    /** All that the loom shows of its state. */
    static String stateOf(TreadleLoom loom) {
        StringBuilder state = new StringBuilder(tiesOf(loom));
        for (int program = 0; program < 10; program++) {
            state.append(' ').append(loom.ofProgram(program, 0)).append(':')
                    .append(faultOf(loom, program)).append(':').append(numbersOf(loom, program));
        }
        for (int end = 0; end < loom.cloth(0); end++) {
            state.append(' ');
            for (int pick = 0; pick < loom.cloth(1); pick++) {
                state.append(loom.field(end, pick, 0)).append(loom.field(end, pick, 1));
            }
        }
        return state.append(' ').append(loom.digest()).toString();
    }

    static void note(boolean isDue, String otherwise) {
        if (isDue) {
            passed++;
        } else {
            failed++;
            System.out.println(otherwise);
        }
    }

    static void close() {
        System.out.println(passed + " passed, " + failed + " failed");
        if (failed > 0) {
            System.exit(1);
        }
    }
}
