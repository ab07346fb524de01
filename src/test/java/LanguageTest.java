import java.io.IOException;
import java.nio.file.Files;
import java.nio.file.Path;
import java.util.regex.Matcher;
import java.util.regex.Pattern;

/** The rules of LANGUAGE.md that can be read off the source, run from the project's folder. */
public final class LanguageTest {
    private static final String[] FORBIDDEN = {"\\bimport\\b", "\\bpackage\\b", "\\bfinally\\b", "\\bcatch\\b",
        "\\bsynchronized\\b", "\\bassert\\b", "->", "::", "Exact\\b", "\\bSystem\\b", "\\bThread\\b",
        "\\bdouble\\b", "\\bfloat\\b", "\\bhashCode\\b", "\\bequals\\b", "\\btoString\\b", "static \\{",
        "\\[\\]\\[\\]\\[\\]", "\\bwhile\\b", "\\bprotected\\b"};
    private static final Pattern METHOD = Pattern.compile("(?m)^( +)[a-zA-Z][\\w\\[\\] ]*\\(([^)]*)\\) \\{$");

    public static void main(String[] args) throws IOException {
        Checks checks = new Checks("LanguageTest");
        String source = Files.readString(Path.of("src/main/java/TrackCrossings.java"));
        String code = source.replaceAll("(?s)/\\*.*?\\*/", "").replaceAll("//[^\n]*", "");
        for (String word : FORBIDDEN) {
            checks.holds("the program is without " + word, !Pattern.compile(word).matcher(code).find());
        }
        checks.holds("all signs are plain", source.chars().allMatch(c -> c == '\n' || (c >= 32 && c < 127)));
        checks.holds("all loops count", !Pattern.compile("for \\(;|for \\([^;)]*;\\s*;").matcher(code).find());
        checkMethods(checks, code);
        checks.end();
    }

    private static void checkMethods(Checks checks, String code) {
        Matcher method = METHOD.matcher(code);
        int seen = 0;
        while (method.find()) {
            seen++;
            int end = code.indexOf("\n" + method.group(1) + "}", method.end());
            long lines = code.substring(method.start(), Math.max(end, method.start())).lines().count();
            checks.holds("short: " + method.group().trim(), end > 0 && lines <= 60);
            checks.holds("few parameters: " + method.group().trim(), method.group(2).split(",").length <= 7);
        }
        checks.holds("methods are found", seen > 30);
    }
}
