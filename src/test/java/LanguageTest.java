import java.io.IOException;
import java.nio.file.Files;
import java.nio.file.Path;
import java.util.regex.Matcher;
import java.util.regex.Pattern;

/**
 * Those rules of ../shared/LANGUAGE.md that can be seen from the words of the file.
 * Where a rule allows a word under conditions (try, instanceof), the class does without.
 */
public final class LanguageTest {
    private static final Path FILE = Path.of("src/main/java/BrackenGambit.java");

    private static final String[] BARRED = {
        "->", "::", "\\bpackage\\b", "\\btry\\b", "\\bcatch\\b", "\\bfinally\\b", "\\bsynchronized\\b", "\\bassert\\b",
        "\\binstanceof\\b", "\\bvar\\b", "\\bStream\\b", "\\bObject\\b", "\\bMap\\b", "\\bRandom\\b", "\\bThread\\b",
        "\\bequals\\b", "\\bhashCode\\b", "\\btoString\\b", "Exact\\(", "\\bnanoTime\\b", "\\bcurrentTimeMillis\\b",
        "System\\.(?!arraycopy)", "Math\\.(?!max|min|abs|floorDiv|floorMod)", "\\bstatic \\{", "[^\\x00-\\x7f]",
        "\"\\s*\\+", "\\+\\s*\"", "\\bwhile \\(true\\)"};

    public static void main(String[] args) throws IOException {
        String code = Files.readString(FILE).replaceAll("(?s)/\\*.*?\\*/", "").replaceAll("//[^\n]*", "");
        for (String barred : BARRED) {
            Matcher found = Pattern.compile(barred).matcher(code);
            Check.same("no " + barred, found.find(), false);
        }
        imports(code);
        throwsOnly(code);
        methodLengths(code);
        Check.finish();
    }

    private static void imports(String code) {
        Matcher found = Pattern.compile("import ([\\w.]+);").matcher(code);
        while (found.find()) {
            Check.same("imports", found.group(1), "java.util.NoSuchElementException");
        }
    }

    private static void throwsOnly(String code) {
        Matcher found = Pattern.compile("\\bthrow\\b[^;]*;").matcher(code);
        while (found.find()) {
            String thrown = found.group();
            boolean plain = thrown.matches("throw new (IllegalState|IllegalArgument|IndexOutOfBounds|NoSuchElement)"
                    + "Exception\\(\"[^\"]*\"\\);");
            Check.same(thrown, plain, true);
        }
    }

    private static void methodLengths(String code) {
        int opened = -1;
        String[] lines = code.split("\n");
        for (int i = 0; i < lines.length; i++) {
            if (lines[i].matches("( {4}| {8})[a-z][^=]*\\).*\\{") || lines[i].matches(" {12}throws .*\\{")) {
                opened = i;
            }
            if (lines[i].matches(" {4}\\}| {8}\\}") && opened >= 0) {
                Check.same("short enough at line " + i, i - opened <= 40, true);
                opened = -1;
            }
        }
    }
}
