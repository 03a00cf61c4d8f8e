import java.util.Objects;

/** Compares answers with what is due, prints what differs, and ends a test with exit code 1 if something did. */
final class Check {
    interface Call {
        Object run();
    }

    private static int wrong = 0;
    private static int seen = 0;
    private static String beside = "";

    private Check() {
    }

    /** A text that stands before what is printed from now on. */
    static void beside(String text) {
        beside = text;
    }

    /** How many answers have been looked at. */
    static int seen() {
        return seen;
    }

    static void due(String what, Object got, Object want) {
        seen++;
        if (!Objects.equals(got, want)) {
            wrong++;
            if (wrong <= 50) {
                System.out.println(beside + what + " answered " + got + ", due is " + want);
            }
        }
    }

    static void thrown(String what, Class<?> want, Call call) {
        due(what, answer(call), "throws " + want.getName());
    }

    static void badArgument(String what, Call call) {
        thrown(what, IllegalArgumentException.class, call);
    }

    static void badState(String what, Call call) {
        thrown(what, IllegalStateException.class, call);
    }

    /** What a call answers; exceptions are told by the very class that is thrown, not by one above it. */
    static Object answer(Call call) {
        try {
            return call.run();
        } catch (RuntimeException e) {
            return "throws " + e.getClass().getName();
        }
    }

    static void finish() {
        System.out.println(seen + " answers looked at, " + wrong + " not as due");
        if (wrong != 0 || seen == 0) {
            System.exit(1);
        }
    }
}
