import java.io.IOException;
import java.nio.file.Files;
import java.nio.file.Path;
import java.util.Set;
import java.util.regex.Matcher;
import java.util.regex.Pattern;

/**
 * LANGUAGE.md, as far as the text of the class shows it. The class uses less than the rules leave: a word of the
 * library that they leave too, and that comes to be needed, is to be added here.
 */
public final class LanguageTest {
    private static final Set<String> LIBRARY = Set.of("Integer");
    private static final Set<String> OF_LIBRARY = Set.of("Integer.bitCount");
    private static final Set<String> BARRED = Set.of("package", "import", "throw", "throws", "try", "catch", "finally",
        "assert", "synchronized", "volatile", "transient", "native", "strictfp", "protected", "float", "double",
        "String", "Object", "Thread", "System", "Random", "instanceof", "var", "equals", "hashCode", "toString");

    public static void main(String[] args) throws IOException {
        String source = Files.readString(Path.of("src/main/java/RegisterSealer.java"));
        String code = withoutComments(source);
        signsAreAscii(source);
        words(code);
        rule2NoLambda(code);
        rule9LoopsCount(code);
        rule11ShortMethods(code);
        Check.finish();
    }

    private static String withoutComments(String source) {
        return source.replaceAll("(?s)/\\*.*?\\*/", "").replaceAll("//[^\n]*", "");
    }

    private static void signsAreAscii(String source) {
        Check.due("signs beyond 127", source.chars().filter(sign -> sign > 127).count(), 0);
    }

    // Rules 3 to 6 and 13: no word that they bar, and of the library no more than stands above.
    private static void words(String code) {
        Matcher word = Pattern.compile("[A-Za-z_][A-Za-z_0-9]*").matcher(code);
        while (word.find()) {
            String text = word.group();
            boolean ofLibrary = text.matches("[A-Z].*[a-z].*") && !text.equals("RegisterSealer");
            Check.due("word " + text + " is barred", BARRED.contains(text), false);
            Check.due("word " + text + " is left", !ofLibrary || LIBRARY.contains(text), true);
        }
        Matcher call = Pattern.compile("([A-Z][A-Za-z]*[a-z][A-Za-z]*)\\.[A-Za-z]+").matcher(code);
        while (call.find()) {
            Check.due(call.group() + " is left", OF_LIBRARY.contains(call.group()), true);
        }
    }

    private static void rule2NoLambda(String code) {
        Check.due("lambdas", code.contains("->"), false);
        Check.due("method references", code.contains("::"), false);
    }

    // Each loop counts one number up to a bound, and what it holds leaves that number alone.
    private static void rule9LoopsCount(String code) {
        Check.due("while", code.matches("(?s).*\\bwhile\\b.*"), false);
        String head = "int (\\w+) = 0; \\1 < [\\w.]+; \\1\\+\\+";
        Matcher loop = Pattern.compile("\\bfor \\((.*?)\\) \\{\n(.*?)\n( *)\\}", Pattern.DOTALL).matcher(code);
        int loops = 0;
        while (loop.find()) {
            loops++;
            Matcher counts = Pattern.compile(head).matcher(loop.group(1));
            boolean counted = counts.matches();
            Check.due("for (" + loop.group(1) + ") counts to a bound", counted, true);
            if (counted) {
                String sets = "(?s).*\\b" + counts.group(1) + " ?(=[^=]|\\+\\+|--|[-+*/]=).*";
                Check.due("its body sets the counter", loop.group(2).matches(sets), false);
            }
        }
        Check.due("every loop is looked at", loops, code.split("\\bfor\\b", -1).length - 1);
    }

    private static void rule11ShortMethods(String code) {
        Matcher method = Pattern.compile("(?m)^    (?:p[a-z]+ )[^=;]*?\\(([^)]*)\\) \\{\n((?:.*\n)*?)^    \\}").matcher(code);
        int methods = 0;
        while (method.find()) {
            methods++;
            String name = method.group().substring(0, method.group().indexOf('(')).trim();
            Check.due(name + " takes at most seven parameters", method.group(1).split(",").length <= 7, true);
            Check.due(name + " is short", method.group(2).split("\n").length <= 40, true);
        }
        int declared = RegisterSealer.class.getDeclaredMethods().length + 1;
        Check.due("every method is looked at, and the constructor", methods, declared);
    }
}
