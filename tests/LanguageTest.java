import java.io.IOException;
import java.nio.file.Files;
import java.nio.file.Path;
import java.util.regex.Matcher;
import java.util.regex.Pattern;

/** Looks for words that LANGUAGE.md leaves out of the class's source. It finds slips, not all of them. */
public final class LanguageTest {
    private static final String[] LEFT_OUT = {
        "\\b(throw|throws|try|catch|finally|synchronized|assert|package|import|native|volatile|var)\\b",
        "->", "::", "\\bException\\b", "\\bError\\b", "@", "\\bSystem\\.(?!arraycopy\\b)\\w+", "\\bThread\\b",
        "\\b(hashCode|equals|toString|getClass|finalize)\\b", "\\w+Exact\\b", "\"[^\"]*\"\\s*\\+", "\\+\\s*\"",
        "\\bwhile\\s*\\(\\s*true", "\\bfor\\s*\\(\\s*;\\s*;", "\\bnew\\s+\\w+\\([^)]*\\)\\s*\\{",
        "\\bstatic\\s+(?!final\\b|class\\b)[\\w\\[\\]]+\\s+\\w+\\s*[=;]", "\\bstatic\\s*\\{", "\\bnull\\b"
    };

    public static void main(String[] args) throws IOException {
        String source = Files.readString(Path.of("src/main/java/RumorTombs.java"));
        String code = source.replaceAll("(?s)/\\*.*?\\*/", "").replaceAll("//.*", "");
        for (String pattern : LEFT_OUT) {
            Matcher matcher = Pattern.compile(pattern).matcher(code);
            boolean found = matcher.find();
            Due.is("looking for " + pattern + (found ? " in: " + matcher.group() : ""), found ? 1 : 0, 0);
        }
        Due.is("every sign is plain", source.chars().allMatch(c -> c == '\n' || c >= 32 && c <= 126) ? 1 : 0, 1);
        Due.end();
    }
}
