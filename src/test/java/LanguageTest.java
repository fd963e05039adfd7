import java.io.IOException;
import java.nio.file.Files;
import java.nio.file.Path;
import java.util.regex.Matcher;
import java.util.regex.Pattern;

/** The rules of LANGUAGE.md that can be seen from the program's text alone; run from the project's root. */
public final class LanguageTest {
    private static final String[] NOT_THERE = {
        "\\b(throw|throws|try|catch|finally|synchronized|assert|import|package|static\\s*\\{|native|volatile)\\b",
        "->", "::", "@", "\\bSystem\\.(?!arraycopy\\b)", "\\w+Exact\\b", "\\b(protected|super)\\b",
        "\\b(Object|Class|Thread|Random|Runtime|Exception|Error)\\b", "\\.(hashCode|toString|getClass)\\b",
        "\\b(float|double|var|goto|yield)\\b", "\\[\\]\\s*\\[\\]", "\\bclass\\s+\\w+\\s+extends\\b",
        "[^\\x00-\\x7f]", "\\bnull\\b", "\\b(ArrayList|List|Iterator|StringBuilder|Arrays)\\b"
    };

    public static void main(String[] args) throws IOException {
        Due due = new Due("LanguageTest");
        String source = Files.readString(Path.of("src/main/java/SpoonHates.java"));
        String code = source.replaceAll("(?s)/\\*.*?\\*/", "").replaceAll("//[^\n]*", "");
        for (String rule : NOT_THERE) {
            Matcher found = Pattern.compile(rule).matcher(code);
            due.is("a look for " + rule, found.find() ? 1 : 0, 0);
        }
        Matcher method = Pattern.compile("(?m)^( {4}| {8})\\w[^;={}\n]*\\(([^)]*)\\) \\{\n(?s:.*?)^\\1\\}").matcher(code);
        int methods = 0;
        while (method.find()) {
            methods++;
            String head = method.group().lines().findFirst().orElse("").trim();
            due.is(head + " is short", method.group().lines().count() <= 60 ? 1 : 0, 1);
            due.is(head + " takes seven at most", method.group(2).split(",").length <= 7 ? 1 : 0, 1);
        }
        due.is("many methods are looked at", methods > 100 ? 1 : 0, 1);
        due.is("twelve classes at most", Pattern.compile("\\bclass\\b").matcher(code).results().count() <= 12 ? 1 : 0, 1);
        due.close();
    }
}
