import java.io.IOException;
import java.nio.file.Files;
import java.nio.file.Path;
import java.util.List;
import java.util.regex.Matcher;
import java.util.regex.Pattern;

/** Rules of LANGUAGE.md that the text of the class shows. */
final class LanguageTests {
    private static final String[] NOWHERE = {
        "\\bcatch\\b", "\\btry\\b", "\\bfinally\\b", "\\bsynchronized\\b", "\\bassert\\b", "->", "::",
        "\"\\s*\\+|\\+\\s*\"", "\\bstatic\\s*\\{", "\\bSystem\\.(?!arraycopy)", "Exact\\(", "\\bpackage\\b",
        "\\bimport\\b(?! java\\.util\\.NoSuchElementException;)", "\\bprotected\\b", "\\bnew \\w*Random\\b",
        "\\bThread\\b", "String\\.format", "\\.equals\\(", "\\binstanceof\\b", "\\bMAX_VALUE\\b", "[^\\x00-\\x7F]",
    };
    private final Tally tally;
    private final String source;

    private LanguageTests(Tally tally, String source) {
        this.tally = tally;
        this.source = source;
    }

    static void run(Tally tally, Path file) throws IOException {
        LanguageTests tests = new LanguageTests(tally, Files.readString(file));
        tests.nothingForbidden();
        tests.exceptions();
        tests.shortMethods();
    }

    private void nothingForbidden() {
        String code = source.replaceAll("(?s)/\\*.*?\\*/", "").replaceAll("//.*", "");
        for (String pattern : NOWHERE) {
            Matcher matcher = Pattern.compile(pattern).matcher(code);
            tally.due("LANGUAGE.md rules out " + pattern, "nowhere", matcher.find() ? matcher.group() : "nowhere");
        }
    }

    private void exceptions() {
        Matcher matcher = Pattern.compile("throw (.*)").matcher(source);
        while (matcher.find()) {
            String thrown = matcher.group(1);
            tally.due("rule 6: " + thrown, 1, () -> Tally.truth(thrown.matches("new \\w+Exception\\(\"[^\"]*\"\\);")));
        }
    }

    private void shortMethods() {
        int begin = 0;
        List<String> lines = source.lines().toList();
        for (int number = 0; number < lines.size(); number++) {
            String line = lines.get(number);
            if (line.isBlank()) {
                begin = number;
            }
            int length = number - begin;
            if (line.matches(" {4}( {4})?}")) {
                tally.due("rule 11: method that ends in line " + (number + 1), 1, () -> Tally.truth(length <= 60));
            }
            tally.due("width of line " + (number + 1), 1, () -> Tally.truth(line.length() <= 110));
        }
    }
}
