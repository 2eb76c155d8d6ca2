import java.io.IOException;
import java.nio.file.Files;
import java.nio.file.Path;
import java.util.regex.Matcher;
import java.util.regex.Pattern;

/** What can be seen of LANGUAGE.md's rules in the text of the program; it is run in the project's folder. */
public final class LanguageTest {
    /** The rule, and what may not stand in the program (its comments and texts left out). */
    private static final String[][] BARRED = {
        {"1", "\\bpackage\\b"},
        {"2", "->"},
        {"2", "::"},
        {"3", "\\bObject\\b"},
        {"3", "\\b(Map|HashMap|Set|HashSet|Boolean|Long\\s+\\w+\\s*[=;]|Byte|Short|Character)\\b"},
        {"4", "\\bimport\\b(?!\\s+java\\.util\\.Arrays;)"},
        {"4", "\\b(System|Math|Arrays)\\.(?!arraycopy\\b|max\\b|min\\b|abs\\b|floorDiv\\b|floorMod\\b|fill\\b)\\w+"},
        {"4", "\\w+Exact\\b"},
        {"5", "\\bstatic\\s+\\{"},
        {"6", "\\b(synchronized|assert|finally|Exception\\s+extends|extends\\s+\\w*Exception)\\b"},
        {"6", "\\bthrow\\b(?!\\s+new\\s+(IllegalArgument|IllegalState)Exception\\(\"\"\\);)"},
        {"6", "\\b(hashCode|getMessage|printStackTrace)\\b"},
        {"9", "while\\s*\\(\\s*true"},
        {"9", "for\\s*\\(\\s*;"},
        {"10", "\"\\s*\\+|\\+\\s*\""},
        {"13", "\\b(Thread|Random|currentTimeMillis|nanoTime|getenv|File)\\b"},
    };

    public static void main(String[] args) throws IOException {
        String all = Files.readString(Path.of("src/main/java/CamStitch.java"));
        Due.due("signs beyond 127", all.chars().filter(c -> c > 127).count(), 0);
        String program = all.replaceAll("(?s)/\\*.*?\\*/", "").replaceAll("//[^\n]*", "").replaceAll("\"[^\"\n]*\"", "\"\"");
        for (String[] barred : BARRED) {
            Matcher m = Pattern.compile(barred[1]).matcher(program);
            Due.same("rule " + barred[0], m.find() ? m.group() : "", "");
        }
        statics(program);
        methods(program);
        Due.end("LanguageTest");
    }

    /** Rule 5: static fields are final. */
    private static void statics(String program) {
        Matcher m = Pattern.compile("\\bstatic\\s+(?!final\\b)[\\w\\[\\]]+\\s+\\w+\\s*[=;,]").matcher(program);
        Due.same("rule 5", m.find() ? m.group() : "", "");
    }

    /** Rule 11: at most seven parameters and some sixty lines a method, some twenty fields a class. */
    private static void methods(String program) {
        Matcher m = Pattern.compile("(?m)^( {4}| {8})(?=\\S)[\\w\\[\\] ]+ (\\w+)\\(([^)]*)\\)[\\w ,]*\\{$(?s)(.*?)^\\1\\}$").matcher(program);
        int seen = 0;
        while (m.find()) {
            seen++;
            Due.same("parameters of " + m.group(2), m.group(3).split(",").length <= 7, true);
            Due.same("lines of " + m.group(2), m.group(4).split("\n").length <= 60, true);
        }
        Due.same("methods are seen", seen > 100, true);
    }
}
