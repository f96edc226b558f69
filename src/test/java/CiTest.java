import java.io.IOException;

/** The way to run the tests that README.md names, in small projects: it runs every test and fails if one fails. */
public final class CiTest {
    private static final String OWN = "src/test/java/";
    private static final String SHARED = "../shared/tests/";

    public static void main(String[] args) throws IOException, InterruptedException {
        everyTestRuns();
        aTestOfTheProjectFails();
        aSharedTestFails();
        aTestDoesNotCompile();
        noTests();
        Check.finish("CiTest");
    }

    /** A test that says its name and ends with the exit code; like each test, it makes a coaster. */
    private static void writeTest(Workshop workshop, String folder, String name, int exit) throws IOException {
        workshop.write(folder + name + ".java", "public final class " + name + " {\n"
                + "    public static void main(String[] args) {\n"
                + "        System.out.println(\"" + name + " has \" + new BlockCoaster().value(0) + \" cells\");\n"
                + "        System.exit(" + exit + ");\n    }\n}\n");
    }

    private static Workshop workshop() throws IOException {
        Workshop workshop = new Workshop();
        workshop.copy(Workshop.PROGRAM);
        workshop.copy(".ci/run");
        return workshop;
    }

    private static Workshop.Outcome runAll(Workshop workshop) throws IOException, InterruptedException {
        return workshop.run(Readme.blocks(Readme.TESTS, "sh").get(0));
    }

    /** The end of a run, and which of the tests said their names. */
    private static void due(String what, int exit, String names, Workshop.Outcome outcome) {
        StringBuilder said = new StringBuilder();
        for (String line : outcome.output().split("\n")) {
            if (line.endsWith(" has 14 cells")) {
                said.append(said.length() == 0 ? "" : " ").append(line, 0, line.indexOf(' '));
            }
        }
        Check.due(what + ": the exit code", exit, outcome.exit());
        Check.due(what + ": the tests that ran", names, said.toString());
    }

    private static void everyTestRuns() throws IOException, InterruptedException {
        try (Workshop workshop = workshop()) {
            writeTest(workshop, OWN, "FirstTest", 0);
            writeTest(workshop, OWN, "SecondTest", 0);
            writeTest(workshop, SHARED, "Runs", 0);
            writeTest(workshop, SHARED, "OtherRuns", 0);
            due("all pass", 0, "FirstTest SecondTest OtherRuns Runs", runAll(workshop));
        }
    }

    private static void aTestOfTheProjectFails() throws IOException, InterruptedException {
        try (Workshop workshop = workshop()) {
            writeTest(workshop, OWN, "FirstTest", 1);
            writeTest(workshop, OWN, "SecondTest", 0);
            writeTest(workshop, SHARED, "Runs", 0);
            due("one of the project fails", 1, "FirstTest SecondTest Runs", runAll(workshop));
        }
    }

    private static void aSharedTestFails() throws IOException, InterruptedException {
        try (Workshop workshop = workshop()) {
            writeTest(workshop, OWN, "FirstTest", 0);
            writeTest(workshop, SHARED, "OtherRuns", 1);
            writeTest(workshop, SHARED, "Runs", 0);
            due("a shared one fails", 1, "FirstTest OtherRuns Runs", runAll(workshop));
        }
    }

    private static void aTestDoesNotCompile() throws IOException, InterruptedException {
        try (Workshop workshop = workshop()) {
            writeTest(workshop, OWN, "FirstTest", 0);
            workshop.write(OWN + "SecondTest.java", "public final class SecondTest {\n");
            writeTest(workshop, SHARED, "Runs", 0);
            due("one of the project does not compile", 1, "Runs", runAll(workshop));
        }
        try (Workshop workshop = workshop()) {
            writeTest(workshop, OWN, "FirstTest", 0);
            workshop.write(SHARED + "Runs.java", "public final class Runs {\n");
            due("a shared one does not compile", 1, "FirstTest", runAll(workshop));
        }
    }

    private static void noTests() throws IOException, InterruptedException {
        try (Workshop workshop = workshop()) {
            due("no test at all", 1, "", runAll(workshop));
        }
    }
}
