import java.io.IOException;
import java.nio.file.Files;
import java.nio.file.Path;
import java.util.regex.Matcher;
import java.util.regex.Pattern;

/** What the text alone shows of LANGUAGE.md: words that the program does without, methods that are short. */
public final class LanguageTest {
    private static final String[] WITHOUT = {"\\bthrow", "\\btry\\b", "\\bcatch\\b", "\\bfinally\\b", "\\bsynchronized\\b",
        "\\bassert\\b", "\\bimport\\b", "\\bpackage\\b", "\\bprotected\\b", "\\brecord\\b", "\\bvar\\b", "\\bnative\\b",
        "\\btransient\\b", "\\bvolatile\\b", "\\byield\\b", "->", "::", "Exact\\b", "\\.equals\\(", "hashCode", "toString",
        "\\bSystem\\.(?!arraycopy\\()", "\\bThread\\b", "\\bRandom\\b", "\\bdouble\\b", "\\bfloat\\b", "while \\(true",
        "for \\(;"};

    public static void main(String[] args) throws IOException {
        Due due = new Due("LanguageTest");
        String text = Files.readString(Path.of("src/main/java/OldLamps.java"));
        due.holds("signs are 1 to 127", text.chars().allMatch(sign -> sign > 0 && sign < 128));
        String code = text.replaceAll("(?s)/\\*.*?\\*/", "").replaceAll("//.*", "").replaceAll("'.'|\"[^\"]*\"", "0");
        for (String word : WITHOUT) {
            Matcher found = Pattern.compile(word).matcher(code);
            due.holds("without " + word, !found.find());
        }
        methodsAreShort(due, text);
        due.end();
    }

    private static void methodsAreShort(Due due, String text) {
        String head = "^( +)(?!return|if|for|else|switch)\\w[^;={}]*\\([^;{}]*\\) \\{$";
        Matcher method = Pattern.compile("(?ms)" + head + ".*?^\\1\\}$").matcher(text);
        int methods = 0;
        while (method.find()) {
            methods++;
            long lines = method.group().lines().count();
            due.holds("some sixty lines at most: " + method.group().lines().findFirst().orElse(""), lines <= 60);
        }
        due.holds("there are methods", methods > 60);
    }
}
