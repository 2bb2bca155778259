import java.io.IOException;
import java.nio.charset.StandardCharsets;
import java.nio.file.Files;
import java.nio.file.Path;
import java.util.List;
import java.util.regex.Matcher;
import java.util.regex.Pattern;

/** The rules of LANGUAGE.md that a look at the source can tell; run from the project's folder. */
public final class LanguageTest {
    private static final Due DUE = new Due();
    private static final Path SOURCE = Path.of("src/main/java/PowerBonds.java");

    public static void main(String[] args) throws IOException {
        String source = Files.readString(SOURCE, StandardCharsets.ISO_8859_1);
        String code = source.replaceAll("(?s)/\\*.*?\\*/", "").replaceAll("//[^\n]*", "");
        forbidden(code);
        library(code);
        methods(code);
        DUE.holds("characters 1 to 127", source.chars().allMatch(sign -> sign > 0 && sign < 128));
        DUE.end();
    }

    private static void forbidden(String code) {
        String[] words = {"throw", "throws", "try", "catch", "finally", "synchronized", "assert", "package", "protected", "volatile",
            "native", "equals", "hashCode", "toString", "Object", "Exception", "double", "float", "var", "goto"};
        for (String word : words) {
            DUE.holds("no " + word, !Pattern.compile("\\b" + word + "\\b").matcher(code).find());
        }
        DUE.holds("no lambda, no arrow", !code.contains("->"));
        DUE.holds("no method reference", !code.contains("::"));
        DUE.holds("no static block", !Pattern.compile("static\\s*\\{").matcher(code).find());
        DUE.holds("no annotation", !code.contains("@"));
        DUE.holds("one public class", code.split("public final class", -1).length == 2);
    }

    private static void library(String code) {
        List<String> allowed = List.of("Arrays.fill", "Arrays.copyOf", "System.arraycopy", "Math.floorMod", "Integer.bitCount");
        Matcher called = Pattern.compile("\\b(Arrays|System|Math|Integer|Long|String|List|ArrayList)\\.(\\w+)").matcher(code);
        while (called.find()) {
            if (!called.group(2).equals("util")) {
                DUE.holds(called.group() + " is of the library", allowed.contains(called.group()));
            }
        }
        Matcher imported = Pattern.compile("import ([^;]+);").matcher(code);
        while (imported.find()) {
            DUE.holds("import " + imported.group(1), imported.group(1).equals("java.util.Arrays"));
        }
    }

    /** Lengths and parameters, by the layout: a method begins with a line that ends with ") {" and ends at the same depth. */
    private static void methods(String code) {
        Matcher method = Pattern.compile("\n( +)(?:(?:public|private|static|final) )*[\\w\\[\\]]+(?: \\w+)?\\(([^()]*)\\) \\{\n").matcher(code);
        int found = 0;
        while (method.find()) {
            if (method.group(1).length() > 8) {
                continue;
            }
            found++;
            int end = code.indexOf("\n" + method.group(1) + "}\n", method.end() - 1);
            long lines = code.substring(method.start() + 1, end + 1).lines().count() + 1;
            DUE.holds(method.group().strip() + " has " + lines + " lines", lines <= 60);
            int parameters = method.group(2).isBlank() ? 0 : method.group(2).split(",").length;
            DUE.holds(method.group().strip() + " has " + parameters + " parameters", parameters <= 7);
        }
        DUE.holds(found + " methods found", found > 100);
    }
}
