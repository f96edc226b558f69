import java.io.IOException;
import java.nio.file.Files;
import java.nio.file.Path;
import java.util.ArrayList;
import java.util.List;

/** Counts what is as due and what is not; every test ends with finish(). */
final class Check {
    /** A call that may throw. */
    interface Call {
        Object answer();
    }

    private static final Path DOCUMENT = Path.of("../shared/DOC.md");
    private static final long MOST_MILLISECONDS = 300_000;

    private static int right = 0;
    private static final List<String> WRONG = new ArrayList<>();
    private static String sentence = "";
    private static String document = null;

    static {
        Thread watch = new Thread(Check::giveUp);
        watch.setDaemon(true);
        watch.start();
    }

    private Check() {
    }

    /** A call that does not end must fail its test, and not keep .ci/run for ever. */
    private static void giveUp() {
        try {
            Thread.sleep(MOST_MILLISECONDS);
        } catch (InterruptedException e) {
            return;
        }
        System.out.println("the test did not end");
        Runtime.getRuntime().halt(1);
    }

    static void due(String what, Object want, Object got) {
        if (want.equals(got)) {
            right++;
        } else {
            WRONG.add(sentence + what + " answered " + got + ", due is " + want);
        }
    }

    /**
     * The checks that follow are of these words of the document. The place is "Promise 7", or "Promise 7, Terms" if
     * the words stand in another section than the promise that they are tested for.
     */
    static void sentence(String place, String words) {
        sentence = place + ", \"" + words + "\": ";
        String heading = place.substring(place.lastIndexOf(", ") < 0 ? 0 : place.lastIndexOf(", ") + 2);
        if (Files.exists(DOCUMENT)) {
            due("the words stand in the document", true, section(heading).contains(words));
        }
    }

    private static String section(String heading) {
        if (document == null) {
            try {
                document = Files.readString(DOCUMENT).replaceAll("\\s+", " ") + " ## ";
            } catch (IOException e) {
                throw new IllegalStateException("there is no " + DOCUMENT, e);
            }
        }
        int begin = Math.max(document.indexOf("## " + heading + ":"), document.indexOf("## " + heading + " "));
        return begin < 0 ? "" : document.substring(begin, document.indexOf(" ## ", begin));
    }

    /** The very class counts: an exception of the Java machine is of a class below the one that is due. */
    static void dueThrow(String what, Class<? extends RuntimeException> want, Call call) {
        due(what, want.getSimpleName(), outcome(call));
    }

    /** As dueThrow, and the coaster is afterwards as it was. */
    static void refused(BlockCoaster coaster, String what, Class<? extends RuntimeException> want, Call call) {
        long before = coaster.digest();
        dueThrow(what, want, call);
        due("what changed by " + what, before, coaster.digest());
    }

    /** The answer, or the name of the exception. */
    static Object outcome(Call call) {
        try {
            return call.answer();
        } catch (RuntimeException e) {
            return e.getClass().getSimpleName();
        }
    }

    static int wrongSoFar() {
        return WRONG.size();
    }

    static void finish(String name) {
        for (String line : WRONG.subList(0, Math.min(WRONG.size(), 40))) {
            System.out.println(name + ": " + line);
        }
        System.out.println(name + ": " + right + " checks as due, " + WRONG.size() + " not as due");
        if (!WRONG.isEmpty()) {
            System.exit(1);
        }
    }
}
