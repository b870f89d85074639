import java.io.IOException;
import java.nio.charset.StandardCharsets;
import java.nio.file.Files;
import java.nio.file.Path;
import java.util.HashMap;
import java.util.List;
import java.util.Map;
import java.util.Set;
import java.util.regex.Matcher;
import java.util.regex.Pattern;

/** What of LANGUAGE.md can be seen in the text of the class. */
public final class LanguageTest {
    private static final Path SOURCE = Path.of("src/main/java/FrozenIn.java");

    private static final String[] FORBIDDEN_WORDS = {
        "throw", "throws", "try", "catch", "finally", "synchronized", "assert", "package", "protected", "volatile",
        "transient", "native", "strictfp", "var", "yield", "Exception", "Error", "Object", "Thread", "System.out",
        "Random", "equals", "hashCode", "toString", "NaN", "double", "float"};

    private static final Set<String> IMPORTS = Set.of(
            "java.util.Arrays", "java.util.ArrayList", "java.util.List", "java.util.Iterator");

    /** Calls of the library that stand in the class, all on LANGUAGE.md's list. */
    private static final Set<String> LIBRARY = Set.of(
            "Arrays.fill", "System.arraycopy", "Math.min", "Math.max", "Math.abs");

    private LanguageTest() {
    }

    public static void main(String[] args) throws IOException {
        byte[] bytes = Files.readAllBytes(SOURCE);
        String source = new String(bytes, StandardCharsets.ISO_8859_1);
        String code = withoutCommentsAndTexts(source);
        for (byte one : bytes) {
            if (one < 1 || one > 126) {
                Due.holds("the source has a sign of number " + one, false);
            }
        }
        words(code);
        library(source, code);
        methodLengths(source.lines().toList());
        callDepths(code);
        Due.holds("one class of the file", count(code, "(?m)^public final class FrozenIn \\{") == 1
                && count(code, "(?m)^([a-z]+ )*(class|interface|enum|record) ") == 1);
        Due.end();
    }

    private static String withoutCommentsAndTexts(String source) {
        return source.replaceAll("(?s)/\\*.*?\\*/", "").replaceAll("//[^\n]*", "")
                .replaceAll("\"[^\"\n]*\"", "\"\"").replaceAll("'[^'\n]*'", "' '");
    }

    private static int count(String code, String pattern) {
        Matcher matcher = Pattern.compile(pattern).matcher(code);
        int times = 0;
        while (matcher.find()) {
            times++;
        }
        return times;
    }

    private static void words(String code) {
        for (String word : FORBIDDEN_WORDS) {
            Due.holds("no " + word, count(code, "\\b" + Pattern.quote(word) + "\\b") == 0);
        }
        Due.holds("no lambda", count(code, "->") == 0);
        Due.holds("no method reference", count(code, "::") == 0);
        Due.holds("no texts joined by +", count(code, "\"\\s*\\+|\\+\\s*\"") == 0);
        Due.holds("no static initialiser block", count(code, "static\\s*\\{") == 0);
        Due.holds("no loop without a bound", count(code, "while\\s*\\(true\\)|for\\s*\\([^;]*;\\s*;") == 0);
    }

    private static void library(String source, String code) {
        Matcher imports = Pattern.compile("(?m)^import ([^;]*);").matcher(source);
        while (imports.find()) {
            Due.holds("import of " + imports.group(1), IMPORTS.contains(imports.group(1)));
        }
        Matcher calls = Pattern.compile("\\b(Arrays|System|Math|Integer|Long|List|String)\\.\\w+").matcher(code);
        while (calls.find()) {
            Due.holds("call of " + calls.group(), LIBRARY.contains(calls.group()));
        }
    }

    /** By the names of the methods alone: those of one name count as one, and then none may call itself. */
    private static void callDepths(String code) {
        Matcher heads = Pattern.compile("(?m)^ {4,8}(?:[a-z]+ )*(?:int|long|boolean|void) (\\w+)\\([^)]*\\) \\{").matcher(code);
        Map<String, String> bodies = new HashMap<>();
        while (heads.find()) {
            int end = code.indexOf("\n" + " ".repeat(heads.group().indexOf(heads.group().trim())) + "}", heads.end());
            bodies.merge(heads.group(1), code.substring(heads.end(), end), String::concat);
        }
        Due.holds("methods are found", bodies.size() > 60);
        for (String name : bodies.keySet()) {
            int depth = depth(name, bodies, 1);
            Due.holds(name + " calls eight deep at most, it was " + depth, depth <= 8);
        }
    }

    private static int depth(String name, Map<String, String> bodies, int above) {
        int deepest = above;
        Matcher calls = Pattern.compile("(\\w+)\\(").matcher(bodies.getOrDefault(name, ""));
        while (calls.find() && above <= 20) {
            boolean isCall = bodies.containsKey(calls.group(1)) || LIBRARY.stream().anyMatch(one -> one.endsWith("." + calls.group(1)));
            if (isCall) {
                deepest = Math.max(deepest, depth(calls.group(1), bodies, above + 1));
            }
        }
        return deepest;
    }

    private static void methodLengths(List<String> lines) {
        int start = -1;
        for (int i = 0; i < lines.size(); i++) {
            String line = lines.get(i);
            if (line.matches(" {4,8}[A-Za-z].*\\) \\{")) {
                start = i;
            } else if (line.matches(" {4,8}\\}") && start >= 0) {
                Due.holds("line " + (start + 1) + ": some sixty lines at most", i - start <= 60);
            }
        }
    }
}
