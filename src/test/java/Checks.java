import java.util.Arrays;
import java.util.function.Consumer;
import java.util.function.Supplier;

/**
 * Counts what is as due, and prints what is not. Nothing is promised of an object after its call
 * 512: so those that are asked much are made anew.
 */
final class Checks {
    static final Class<?> INDEX = IndexOutOfBoundsException.class;
    static final Class<?> ARGUMENT = IllegalArgumentException.class;
    static final Class<?> STATE = IllegalStateException.class;

    private static int passed;
    private static int failed;
    private static String about = "";

    private Checks() {
    }

    /** What the checks from here on are about: it is put ahead of what they print. */
    static void about(String words) {
        about = words;
    }

    static int many() {
        return passed + failed;
    }

    static void is(String what, long got, long want) {
        note(got == want, what + " answered " + got + ", due is " + want);
    }

    static void is(String what, double got, double want) {
        note(got == want, what + " answered " + got + ", due is " + want);
    }

    static void is(String what, boolean got, boolean want) {
        note(got == want, what + " answered " + got + ", due is " + want);
    }

    static void is(String what, String got, String want) {
        note(got.equals(want), what + " answered " + got + ", due is " + want);
    }

    /** The call throws just this class, not one below it (those the machine throws), and changes nothing. */
    static void refuses(String what, TreadleLoom loom, Class<?> want, Runnable call) {
        long before = loom.digest();
        Class<?> got = thrownBy(call);
        note(got == want, what + " threw " + got + ", due is " + want);
        is("digest behind " + what, loom.digest(), before);
    }

    /** As refuses, on a new loom of the maker: it shows all that one shows which was never called so. */
    static void refused(String what, Class<?> want, Supplier<TreadleLoom> maker, Consumer<TreadleLoom> call) {
        TreadleLoom loom = maker.get();
        Class<?> got = thrownBy(() -> call.accept(loom));
        note(got == want, what + " threw " + got + ", due is " + want);
        is("state behind " + what, stateOf(loom), stateOf(maker.get()));
    }

    static Class<?> thrownBy(Runnable call) {
        try {
            call.run();
            return null;
        } catch (RuntimeException e) {
            return e.getClass();
        }
    }

    static TreadleLoom loom() {
        return new TreadleLoom();
    }

    static TreadleLoom loom(int[] threading, int[] treadling) {
        TreadleLoom loom = new TreadleLoom();
        write(loom, 0, threading);
        write(loom, 1, treadling);
        return loom;
    }

    static int[] row(int... numbers) {
        return numbers;
    }

    static void write(TreadleLoom loom, int program, int... tokens) {
        for (int token : tokens) {
            loom.token(program, token);
        }
    }

    static void clear(TreadleLoom loom, int program) {
        loom.untoken(program, 40);
    }

    /** The numbers to which the program is compiled, as digits. */
    static String numbersOf(TreadleLoom loom, int program) {
        StringBuilder digits = new StringBuilder();
        int length = loom.ofProgram(program, 1);
        for (int place = 0; place < length; place++) {
            digits.append(loom.number(program, place));
        }
        return digits.toString();
    }

    /** The fault and its place, as "1@0"; "0@-1" without one. */
    static String faultOf(TreadleLoom loom, int program) {
        return loom.ofProgram(program, 2) + "@" + loom.ofProgram(program, 3);
    }

    static String tiesOf(TreadleLoom loom) {
        int[] ties = new int[8];
        for (int treadle = 0; treadle < ties.length; treadle++) {
            ties[treadle] = loom.tied(treadle);
        }
        return Arrays.toString(ties);
    }

    /** What the loom shows of its state, by less than 350 calls if few programs are long. */
    static String stateOf(TreadleLoom loom) {
        StringBuilder state = new StringBuilder(tiesOf(loom));
        for (int program = 0; program < 10; program++) {
            state.append(' ').append(loom.ofProgram(program, 0)).append(':')
                    .append(faultOf(loom, program)).append(':').append(numbersOf(loom, program));
        }
        appendCloth(state, loom);
        int withRoom = loom.ofProgram(9, 0) < 40 ? 9 : 8;
        return state.append(' ').append(loom.digest()).append(' ').append(loom.floatWith(1, 0))
                .append(loom.changedBy(0, 7)).append(loom.lengthWith(withRoom, 1)).toString();
    }

    private static void appendCloth(StringBuilder state, TreadleLoom loom) {
        int ends = loom.cloth(0);
        int picks = loom.cloth(1);
        for (int end = 0; end < ends; end++) {
            state.append(' ').append(loom.ups(end, true));
            for (int pick = 0; pick < picks && ends * picks <= 40; pick++) {
                state.append('/').append(loom.field(end, pick, 0)).append(loom.field(end, pick, 1));
            }
        }
        for (int pick = 0; pick < picks; pick++) {
            state.append(' ').append(loom.ups(pick, false));
        }
        for (int colour = 0; colour < 8; colour++) {
            state.append(' ').append(loom.seen(colour));
        }
    }

    static void note(boolean isDue, String otherwise) {
        if (isDue) {
            passed++;
        } else {
            failed++;
            System.out.println(about + otherwise);
        }
    }

    static void close() {
        System.out.println(passed + " passed, " + failed + " failed");
        if (failed > 0) {
            System.exit(1);
        }
    }
}
