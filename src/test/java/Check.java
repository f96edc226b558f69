import java.util.ArrayList;
import java.util.List;

/** Counts what is as due and what is not; every test ends with finish(). */
final class Check {
    /** A call that may throw. */
    interface Call {
        Object answer();
    }

    private static int right = 0;
    private static final List<String> WRONG = new ArrayList<>();

    private Check() {
    }

    static void due(String what, Object want, Object got) {
        if (want.equals(got)) {
            right++;
        } else {
            WRONG.add(what + " answered " + got + ", due is " + want);
        }
    }

    /** The very class counts: an exception of the Java machine is of a class below the one that is due. */
    static void dueThrow(String what, Class<? extends RuntimeException> want, Call call) {
        due(what, want.getSimpleName(), outcome(call));
    }

    /** The answer, or the name of the exception. */
    static Object outcome(Call call) {
        try {
            return call.answer();
        } catch (RuntimeException e) {
            return e.getClass().getSimpleName();
        }
    }

    static int wrongSoFar() {
        return WRONG.size();
    }

    static void finish(String name) {
        for (String line : WRONG.subList(0, Math.min(WRONG.size(), 40))) {
            System.out.println(name + ": " + line);
        }
        System.out.println(name + ": " + right + " checks as due, " + WRONG.size() + " not as due");
        if (!WRONG.isEmpty()) {
            System.exit(1);
        }
    }
}
