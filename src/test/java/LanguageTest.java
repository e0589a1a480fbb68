import java.io.IOException;
import java.nio.file.Files;
import java.nio.file.Path;
import java.util.Arrays;
import java.util.List;
import java.util.regex.Matcher;
import java.util.regex.Pattern;

/** What can be read from the text of the class: words that LANGUAGE.md rules out, lengths, what makes objects. */
public final class LanguageTest {
    private static final Path MAIN = Path.of("src/main/java/ConstantStarts.java");
    private static final List<String> RULED_OUT = List.of(
        "throw", "throws", "try", "catch", "finally", "synchronized", "assert", "import", "package",
        "protected", "volatile", "transient", "native", "Object", "hashCode", "toString", "Random",
        "Thread", "Runtime", "Exception", "Error", "double", "float", "var");
    private static final List<String> LIBRARY = List.of("System.arraycopy");

    private static final Check CHECK = new Check("language");

    public static void main(String[] args) throws IOException {
        String text = Files.readString(MAIN);
        CHECK.holds("characters 0 to 255 alone", text.chars().allMatch(c -> c <= 255));
        String code = withoutComments(text);
        for (String word : RULED_OUT) {
            CHECK.holds("no " + word, !Pattern.compile("\\b" + word + "\\b").matcher(code).find());
        }
        CHECK.holds("no lambda, no method reference", !code.contains("->") && !code.contains("::"));
        CHECK.holds("no static block", !Pattern.compile("\\bstatic\\s*\\{").matcher(code).find());
        libraryCalls(code);
        methodLengths(code);
        CHECK.end();
    }

    private static String withoutComments(String text) {
        return text.replaceAll("(?s)/\\*.*?\\*/", "").replaceAll("//[^\n]*", "");
    }

    private static void libraryCalls(String code) {
        Pattern library = Pattern.compile("\\b(System|Math|Integer|Long|Arrays|String|List|ArrayList)\\.\\w+");
        Matcher call = library.matcher(code);
        while (call.find()) {
            CHECK.holds(call.group() + " is known here", LIBRARY.contains(call.group()));
        }
    }

    /** A method is what stands between its head and the brace at the same depth. */
    private static void methodLengths(String code) {
        String[] lines = code.split("\n");
        int methods = 0;
        for (int i = 0; i < lines.length; i++) {
            if (lines[i].matches(" +(public|private) .*\\) \\{")) {
                int indent = lines[i].indexOf('p');
                int end = i;
                while (!lines[end].equals(" ".repeat(indent) + "}")) {
                    end++;
                }
                methods++;
                CHECK.holds("short: " + lines[i].trim(), end - i <= 60);
                makesNothing(String.join("\n", Arrays.copyOfRange(lines, i, end)));
            }
        }
        CHECK.holds("methods were found", methods > 30);
    }

    /** Constructors alone make objects, so that a run of calls makes no more than its constructors do. */
    private static void makesNothing(String method) {
        boolean isConstructor = method.trim().matches("(?s)(public|private) \\w+\\(.*");
        boolean makes = Pattern.compile("\\bnew\\b|\\bclone\\b|\\bcopyOf").matcher(method).find();
        CHECK.holds("makes no object: " + method, isConstructor || !makes);
    }
}
