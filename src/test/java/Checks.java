import java.nio.charset.StandardCharsets;

/** Counts what is not as it is due, and fills tapes for the tests. */
final class Checks {
    private static int done = 0;
    private static int wrong = 0;

    private Checks() {
    }

    static int done() {
        return done;
    }

    static int wrong() {
        return wrong;
    }

    static void due(String call, Object got, Object want) {
        done++;
        if (!want.equals(got)) {
            wrong++;
            System.out.println(call + " answered " + got + ", due is " + want);
        }
    }

    static void dueThrow(String call, Class<? extends RuntimeException> want, Runnable run) {
        String got = "nothing";
        try {
            run.run();
        } catch (RuntimeException e) {
            got = e.getClass().getName();
        }
        due(call + " throws", got, want.getName());
    }

    static void noIndex(String call, Runnable run) {
        dueThrow(call, IndexOutOfBoundsException.class, run);
    }

    static void noArgument(String call, Runnable run) {
        dueThrow(call, IllegalArgumentException.class, run);
    }

    static void noState(String call, Runnable run) {
        dueThrow(call, IllegalStateException.class, run);
    }

    /** Ends the program of a test: with exit code 1, if anything was not as it is due. */
    static void end() {
        System.out.println(done + " checks, " + wrong + " wrong");
        if (wrong != 0 || done == 0) {
            System.exit(1);
        }
    }

    /** Puts a text on an empty tape; a whole feed more than there is room for must not be needed. */
    static void type(RoofPigeons x, String text) {
        byte[] bytes = text.getBytes(StandardCharsets.ISO_8859_1);
        for (int from = 0; from < bytes.length; from += 20) {
            x.feed(word(bytes, from), word(bytes, from + 4), word(bytes, from + 8),
                    word(bytes, from + 12), word(bytes, from + 16));
        }
        x.trim(bytes.length);
    }

    private static int word(byte[] bytes, int from) {
        int word = 0;
        for (int k = from; k < from + 4; k++) {
            word = word << 8 | (k < bytes.length ? bytes[k] & 255 : 'x');
        }
        return word;
    }

    static int teach(RoofPigeons x, String text) {
        type(x, text);
        return x.teach();
    }

    /** A new object that was taught a text without an error. */
    static RoofPigeons taught(String text) {
        RoofPigeons x = new RoofPigeons();
        int error = teach(x, text);
        if (error != 0) {
            due("teach() of " + text, "error " + error + " at " + x.errorAt(), "no error");
        }
        return x;
    }

    /** Checks the error of a text, and its place. */
    static void dueError(String text, int error, int place) {
        RoofPigeons x = new RoofPigeons();
        due("teach() of \"" + text + "\"", teach(x, text), error);
        due("errorAt() behind teach() of \"" + text + "\"", x.errorAt(), place);
    }

    /** Checks the error of a text, whose place is that of the @ in it, which itself is not fed. */
    static void dueErrorAtMark(int error, String text) {
        dueError(text.replace("@", ""), error, text.indexOf('@'));
    }

    static void dueNoError(String text) {
        dueError(text, 0, -1);
    }

    static String times(int count, String text) {
        return text.repeat(count);
    }
}
