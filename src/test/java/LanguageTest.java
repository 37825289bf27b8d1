import java.io.IOException;
import java.nio.file.Files;
import java.nio.file.Path;
import java.util.ArrayList;
import java.util.List;
import java.util.Set;
import java.util.TreeSet;
import java.util.regex.Matcher;
import java.util.regex.Pattern;

/** The rules of ../shared/LANGUAGE.md that a look at the program's text can try. */
public final class LanguageTest {
    private static final Due DUE = new Due("LanguageTest");

    public static void main(String[] args) throws IOException {
        Path root = Path.of(System.getProperty("project.root", "."));
        String program = Files.readString(root.resolve("src/main/java/PierTooFar.java"));
        DUE.is("signs are 1 to 127", program.chars().filter(c -> c > 127).count(), 0);
        String bare = program.replaceAll("(?s)/\\*.*?\\*/", " ").replaceAll("//[^\n]*", " ");
        String code = bare.replaceAll("\"[^\"\n]*\"", "\"\"").replaceAll("'[^']*'", "' '");
        forbiddenWords(code);
        library(code);
        face(code);
        classes(code);
        statics(code);
        methods(code);
        DUE.close();
    }

    private static void none(String rule, String code, String pattern) {
        Matcher found = Pattern.compile(pattern).matcher(code);
        DUE.no(rule + ": " + pattern, found.find());
    }

    private static void forbiddenWords(String code) {
        for (String word : new String[] {"throw", "throws", "try", "catch", "finally", "synchronized", "assert", "package", "yield",
            "var", "import", "instanceof", "volatile", "transient", "native", "strictfp", "protected", "goto", "sealed", "permits",
            "Thread", "Random", "Object", "hashCode", "toString", "getClass", "float", "double"}) {
            none("a word that the program does without", code, "\\b" + word + "\\b");
        }
        none("rule 2, no lambda", code, "->");
        none("rule 2, no method reference", code, "::");
        none("rule 2, no annotation", code, "@");
        none("rule 10, texts are not joined by +", code, "\"\\s*\\+|\\+\\s*\"");
        none("rule 4, no exact arithmetic", code, "Exact\\b");
    }

    private static void library(String code) {
        Set<String> used = new TreeSet<>();
        Matcher call = Pattern.compile("\\b(Math|Integer|Long|String|System|Arrays|List|ArrayList|StringBuilder)\\b(\\.\\w+)?")
                .matcher(code);
        while (call.find()) {
            used.add(call.group());
        }
        Set<String> fine = Set.of("Math.abs", "Math.floorDiv", "Math.floorMod", "Math.max", "Math.min", "Integer.bitCount", "String");
        used.removeAll(fine);
        DUE.is("rule 4, the library: " + used, used.size(), 0);
        DUE.is("rule 12, new stands in fields and constructors alone", madeOutside(code), 0);
    }

    /** How many lines make something that are neither fields nor in a constructor. */
    private static int madeOutside(String code) {
        int count = 0;
        for (String line : code.split("\n")) {
            boolean field = line.matches("\\s*private final .* = new .*;");
            boolean inConstructor = line.matches("\\s*(firsts|seconds|thirds|piers\\[i\\]) = new .*;");
            count += line.contains("new ") && !field && !inConstructor ? 1 : 0;
        }
        return count;
    }

    private static void face(String code) {
        Matcher open = Pattern.compile("\\n    public [^\\n]*").matcher(code);
        List<String> lines = new ArrayList<>();
        while (open.find()) {
            lines.add(open.group().trim());
        }
        DUE.is("rule 1, the constant, the constructor and 39 methods", lines.size(), 41);
        DUE.is("rule 1, public stands nowhere else", code.split("\\bpublic\\b", -1).length - 1, 42);
        Set<String> names = new TreeSet<>();
        Matcher name = Pattern.compile("\\n    public \\w+ (\\w+)\\(").matcher(code);
        while (name.find()) {
            names.add(name.group(1));
        }
        DUE.is("rule 1, 39 names", names.size(), 39);
        Matcher method = Pattern.compile("\\n {4,8}(?:private )?(?:static )?(?:int|boolean|void|long) (\\w+)\\(").matcher(code);
        while (method.find()) {
            DUE.no("rule 1, no other method bears a public name: " + method.group(1), names.contains(method.group(1)));
        }
        Matcher member = Pattern.compile("\\n    (?!private |public |}|/| |\\n)\\S[^\\n]*").matcher(code);
        DUE.no("rule 1, no package-visible member", member.find());
    }

    private static void classes(String code) {
        int count = code.split("\\bclass\\b", -1).length - 1;
        DUE.yes("rule 11, some twelve classes", count <= 12);
        Matcher inner = Pattern.compile("\\n( +)([\\w ]*)\\bclass\\b").matcher(code);
        while (inner.find()) {
            DUE.is("rule 2, classes inside are private and static", inner.group(2).equals("private static final ") ? 1 : 0, 1);
        }
        for (String body : code.split("\\bclass\\b")) {
            Matcher field = Pattern.compile("\\n {4,8}private (?!static)[\\w\\[\\] ]+( = [^;]*)?;").matcher(body);
            int fields = 0;
            while (field.find()) {
                fields++;
            }
            DUE.yes("rule 11, some twenty fields: " + fields, fields <= 20);
        }
    }

    private static void statics(String code) {
        Matcher field = Pattern.compile("\\n +(?:private|public) static (?!final)[^(\\n]*[;=]").matcher(code);
        DUE.no("rule 5, static fields are final", field.find());
        none("rule 5, no static block", code, "static\\s*\\{");
    }

    private static void methods(String code) {
        Matcher method = Pattern.compile("(?s)\\n( {4}| {8})((?:\\w+ )*[\\w\\[\\]]+\\(([^)]*)\\)) \\{(.*?)\\n\\1\\}").matcher(code);
        int count = 0;
        while (method.find()) {
            count++;
            int parameters = method.group(3).isEmpty() ? 0 : method.group(3).split(",").length;
            DUE.yes("rule 11, at most seven parameters: " + method.group(2), parameters <= 7);
            DUE.yes("rule 11, some sixty lines: " + method.group(2), method.group(4).split("\n").length <= 60);
        }
        DUE.yes("rule 11, methods are found: " + count, count > 100);
    }
}
