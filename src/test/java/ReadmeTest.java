import java.io.IOException;
import java.lang.reflect.Method;
import java.lang.reflect.Modifier;
import java.nio.file.Files;
import java.nio.file.Path;
import java.util.Set;
import java.util.TreeSet;
import java.util.stream.Collectors;
import java.util.stream.Stream;

/** What README.md says of the use of the class holds, and it names what there is. */
public final class ReadmeTest {
    private static final Due DUE = new Due("ReadmeTest");

    public static void main(String[] args) throws IOException, InterruptedException {
        Path root = Path.of(System.getProperty("project.root", "."));
        Readme readme = Readme.of(root);
        calls(readme);
        brokenOnes();
        methods(readme);
        names(readme, root);
        DUE.close();
    }

    private static void calls(Readme readme) throws IOException, InterruptedException {
        DUE.holds("README.md, the calls that it shows compile and answer as it says");
        for (String problem : readme.problems()) {
            DUE.no(problem, true);
        }
        DUE.yes("calls are shown", readme.calls().size() > 39);
    }

    /** What is looked for above is found where it is. */
    private static void brokenOnes() throws IOException, InterruptedException {
        DUE.holds("README.md, what would not hold is seen");
        DUE.is("a call that answers so", problems("x.look(0);  // -> 0: WALKERS"), 0);
        DUE.is("another answer", problems("x.look(0);  // -> 1: WALKERS"), 1);
        DUE.is("another answer of a variable", problems("int w = x.walker(1, 1, 1);  // -> 1: WALKER"), 1);
        DUE.is("a number for true or false", problems("x.undo();  // -> 0: nothing"), 1);
        DUE.is("a call without an answer", problems("x.look(0);"), 1);
        DUE.is("what does not compile", problems("x.looks(0);  // -> 0: WALKERS"), 1);
        DUE.is("a name that is not there", problems("x.look(w);  // -> 0: WALKERS"), 1);
    }

    private static int problems(String line) throws IOException, InterruptedException {
        return new Readme("\n```java\nPierTooFar x = new PierTooFar();\n" + line + "\n```\n").problems().size();
    }

    private static void methods(Readme readme) {
        DUE.holds("README.md, each public method is shown by a call");
        String calls = readme.calls().stream().map(call -> call[0]).collect(Collectors.joining("\n", "\n", ""));
        int count = 0;
        for (Method method : PierTooFar.class.getDeclaredMethods()) {
            if (Modifier.isPublic(method.getModifiers())) {
                count++;
                DUE.yes(method.getName() + "()", calls.contains("\nx." + method.getName() + "("));
            }
        }
        DUE.is("public methods", count, 39);
    }

    private static void names(Readme readme, Path root) throws IOException {
        DUE.holds("README.md, the table of tests names those that there are");
        Set<String> tests = new TreeSet<>(readme.found("How to run its tests", "\n\\| `(\\w+)` \\|"));
        try (Stream<Path> files = Files.list(root.resolve("src/test/java"))) {
            Set<String> there = files.map(file -> file.getFileName().toString()).filter(name -> name.endsWith("Test.java"))
                    .map(name -> name.replace(".java", "")).collect(Collectors.toCollection(TreeSet::new));
            DUE.yes("tests " + tests + ", there are " + there, tests.equals(there));
        }
        DUE.holds("README.md, it names the classes inside the program");
        Set<String> named = new TreeSet<>(readme.found("How it is built", "`([A-Z][a-z]\\w*)`"));
        Set<String> inside = Stream.of(PierTooFar.class.getDeclaredClasses()).map(Class::getSimpleName)
                .collect(Collectors.toCollection(TreeSet::new));
        DUE.yes("classes " + named + ", there are " + inside, named.equals(inside));
    }
}
