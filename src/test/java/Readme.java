import java.io.File;
import java.io.IOException;
import java.nio.file.Files;
import java.nio.file.Path;
import java.util.ArrayList;
import java.util.List;
import java.util.regex.Matcher;
import java.util.regex.Pattern;
import java.util.stream.Collectors;

/** README.md and what it shows: its blocks, the words in a section of it, and whether its calls answer as it says. */
final class Readme {
    private static final Pattern ANSWERED =
            Pattern.compile("(?:int (\\w+) = )?((?:x\\.\\w+|tell)\\(.*\\)); +// -> (-?\\d+|true|false): \\S.*");
    private static final String MADE = "PierTooFar x = new PierTooFar();";

    private final String text;

    Readme(String text) {
        this.text = text;
    }

    static Readme of(Path root) throws IOException {
        return new Readme(Files.readString(root.resolve("README.md")));
    }

    /** The blocks in one language, in their order. */
    List<String> blocks(String language) {
        List<String> blocks = new ArrayList<>();
        Matcher block = Pattern.compile("(?s)\\n```" + language + "\\n(.*?)\\n```").matcher(text);
        while (block.find()) {
            blocks.add(block.group(1));
        }
        return blocks;
    }

    /** The first group of all that matches behind one heading, ahead of the next one. */
    List<String> found(String heading, String pattern) {
        int from = text.indexOf("\n## " + heading + "\n");
        int next = from < 0 ? -1 : text.indexOf("\n## ", from + 1);
        String section = from < 0 ? "" : text.substring(from, next < 0 ? text.length() : next);
        List<String> found = new ArrayList<>();
        Matcher matcher = Pattern.compile(pattern).matcher(section);
        while (matcher.find()) {
            found.add(matcher.group(1));
        }
        return found;
    }

    /** The calls that are shown with an answer, each as: call, answer. */
    List<String[]> calls() {
        List<String[]> calls = new ArrayList<>();
        for (String line : lines()) {
            Matcher answered = ANSWERED.matcher(line);
            if (answered.matches()) {
                calls.add(new String[] {answered.group(2), answered.group(3)});
            }
        }
        return calls;
    }

    /** What does not hold: lines that are no calls with an answer, what does not compile, answers that are others. */
    List<String> problems() throws IOException, InterruptedException {
        List<String> problems = new ArrayList<>();
        for (String line : lines()) {
            if (!line.equals(MADE) && !ANSWERED.matcher(line).matches()) {
                problems.add("no call with its answer: " + line);
            }
        }
        Path work = Files.createTempDirectory("readme");
        Path source = Files.writeString(work.resolve("ReadmeCalls.java"), source());
        String program = System.getProperty("java.class.path");
        List<String> said = new ArrayList<>();
        if (!runs(said, "javac", "-Xlint:all", "-Werror", "-cp", program, "-d", work.toString(), source.toString())) {
            problems.add("does not compile");
        } else if (!runs(said, "java", "-cp", work + File.pathSeparator + program, "ReadmeCalls")) {
            problems.add("does not end well behind " + said);
        } else {
            compare(said, problems);
        }
        Scratch.remove(work);
        return problems;
    }

    private void compare(List<String> answers, List<String> problems) {
        List<String[]> calls = calls();
        if (answers.size() != calls.size()) {
            problems.add(answers.size() + " answers of " + calls.size() + " calls");
        }
        for (int i = 0; i < calls.size() && i < answers.size(); i++) {
            String[] call = calls.get(i);
            if (!answers.get(i).equals(call[1])) {
                problems.add(call[0] + " answers " + answers.get(i) + ", README.md says " + call[1]);
            }
        }
    }

    private static boolean isFunction(String block) {
        return block.startsWith("static ");
    }

    /** All lines of the blocks of calls. */
    private List<String> lines() {
        List<String> lines = new ArrayList<>();
        for (String block : blocks("java")) {
            if (!isFunction(block)) {
                lines.addAll(List.of(block.split("\n")));
            }
        }
        return lines;
    }

    /** A program that holds the blocks as they are shown, and once more so that it prints each answer. */
    private String source() {
        StringBuilder source = new StringBuilder("public final class ReadmeCalls {\n");
        for (String block : blocks("java")) {
            source.append(isFunction(block) ? block + "\n" : "");
        }
        source.append("static void shown() {\n");
        for (String line : lines()) {
            source.append(line).append('\n');
        }
        source.append("}\nstatic void say(long answer) { System.out.println(answer); }\n");
        source.append("static void say(boolean answer) { System.out.println(answer); }\n");
        source.append("public static void main(String[] args) {\nshown();\n");
        for (String line : lines()) {
            Matcher answered = ANSWERED.matcher(line);
            if (!answered.matches()) {
                source.append(line).append('\n');
            } else if (answered.group(1) != null) {
                source.append("int ").append(answered.group(1)).append(" = ").append(answered.group(2)).append(";\n");
                source.append("say(").append(answered.group(1)).append(");\n");
            } else {
                source.append("say(").append(answered.group(2)).append(");\n");
            }
        }
        return source.append("}\n}\n").toString();
    }

    /** Whether a command ends without an error; what it prints comes behind what was said, its faults are thrown away. */
    private static boolean runs(List<String> said, String... command) throws IOException, InterruptedException {
        Process process = new ProcessBuilder(command).redirectError(ProcessBuilder.Redirect.DISCARD).start();
        said.addAll(new String(process.getInputStream().readAllBytes()).lines().collect(Collectors.toList()));
        return process.waitFor() == 0;
    }
}
