import java.io.IOException;
import java.lang.reflect.Method;
import java.lang.reflect.Modifier;
import java.nio.file.Files;
import java.nio.file.Path;
import java.util.List;
import java.util.TreeSet;
import java.util.regex.Matcher;
import java.util.regex.Pattern;
import java.util.stream.Stream;

/** What README.md says holds: its program compiles and answers as it says, and its commands run as they stand there. */
public final class ReadmeTest {
    public static void main(String[] args) throws IOException, InterruptedException {
        theProgramAnswersAsItSays();
        allCallsAreTold();
        allTestsRunByTheScriptOfCi();
        oneTestRunsAlone();
        theTestsAreTold();
        Check.finish("ReadmeTest");
    }

    /** The only block of its language in a section. */
    private static String only(String heading, String language) throws IOException {
        List<String> blocks = Readme.blocks(heading, language);
        Check.due(heading + ": the blocks of " + language, 1, blocks.size());
        return blocks.isEmpty() ? "" : blocks.get(0);
    }

    private static void theProgramAnswersAsItSays() throws IOException, InterruptedException {
        String program = only(Readme.USE, "java");
        Matcher name = Pattern.compile("public final class (\\w+) ").matcher(program);
        Check.due("the program has a name", true, name.find());
        String file = name.group(1) + ".java";
        Check.due("its file is named", true, Readme.section(Readme.USE).contains("`" + file + "`"));
        try (Workshop workshop = new Workshop()) {
            workshop.copy(Workshop.PROGRAM);
            workshop.write(file, program);
            Workshop.Outcome outcome = workshop.run(only(Readme.USE, "sh"));
            Check.due("the program's end", 0, outcome.exit());
            Check.due("what it prints", only(Readme.USE, "text"), outcome.output());
        }
    }

    private static void allCallsAreTold() throws IOException {
        TreeSet<String> calls = new TreeSet<>(List.of("new BlockCoaster()"));
        for (Method method : BlockCoaster.class.getDeclaredMethods()) {
            if (Modifier.isPublic(method.getModifiers())) {
                calls.add(method.getName() + "/" + method.getParameterCount());
            }
        }
        TreeSet<String> told = new TreeSet<>();
        for (String row : Readme.section(Readme.USE).lines().filter(line -> line.startsWith("| `")).toList()) {
            Matcher call = Pattern.compile("`([^`(]+)\\(([^`]*)\\)`").matcher(row);
            while (call.find()) {
                int arguments = call.group(2).isEmpty() ? 0 : call.group(2).split(",").length;
                told.add(call.group(1).startsWith("new ") ? call.group(1) + "()" : call.group(1) + "/" + arguments);
            }
        }
        Check.due("the calls", calls.toString(), told.toString());
    }

    private static List<String> testCommands() throws IOException {
        List<String> blocks = Readme.blocks(Readme.TESTS, "sh");
        Check.due("the ways to run tests: all of them, one alone", 2, blocks.size());
        return blocks.size() == 2 ? blocks : List.of("", "");
    }

    /** CiTest tells what that script does. */
    private static void allTestsRunByTheScriptOfCi() throws IOException {
        Check.due("the way to run all tests", "bash .ci/run\n", testCommands().get(0));
        Check.due("the script can be run", true, Files.isExecutable(Path.of(".ci/run")));
    }

    private static void oneTestRunsAlone() throws IOException, InterruptedException {
        if (!Files.isDirectory(Path.of("../shared/tests"))) {
            return;
        }
        try (Workshop workshop = new Workshop()) {
            workshop.copy("src");
            workshop.copy("../shared");
            Workshop.Outcome outcome = workshop.run(testCommands().get(1));
            Check.due("the commands' end", 0, outcome.exit());
            String output = outcome.output();
            Check.due("the project's test says: " + output, true,
                    output.matches("(?s)PassTest: [1-9]\\d* checks as due, 0 not as due\n.*"));
            Check.due("the shared test says: " + output, true, output.endsWith("\nall answers are as due\n"));
        }
    }

    private static void theTestsAreTold() throws IOException {
        TreeSet<String> tests = new TreeSet<>();
        try (Stream<Path> files = Files.list(Path.of("src/test/java"))) {
            files.map(file -> file.getFileName().toString()).filter(file -> file.endsWith("Test.java"))
                    .forEach(file -> tests.add(file.replace(".java", "")));
        }
        TreeSet<String> told = new TreeSet<>();
        Matcher name = Pattern.compile("`(\\w+Test)`").matcher(Readme.section(Readme.TESTS));
        while (name.find()) {
            told.add(name.group(1));
        }
        Check.due("the tests of the project", tests.toString(), told.toString());
    }
}
