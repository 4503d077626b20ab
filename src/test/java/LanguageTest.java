import java.nio.charset.StandardCharsets;
import java.nio.file.Files;
import java.nio.file.Path;
import java.util.regex.Matcher;
import java.util.regex.Pattern;

/** What ../shared/LANGUAGE.md rules out and a look at the text can find. Runs from the project's root. */
public final class LanguageTest {
    private static final Path SOURCE = Path.of("src/main/java/LinenTunnel.java");
    private static final int MOST_LINES = 60;
    private static final String[] RULED_OUT = {
        "\\bpackage\\b", "\\bimport\\b", "\\bthrows?\\b", "\\btry\\b", "\\bcatch\\b", "\\bfinally\\b",
        "\\bsynchronized\\b", "\\bassert\\b", "\\bvolatile\\b", "\\bnative\\b", "\\bvar\\b", "->", "::",
        "\\bstatic\\s*\\{", "\\b(public|protected) (static )?(final )?(class|interface|enum|record)\\b(?! LinenTunnel\\b)",
        "\\w+Exact\\b", "\\bObject\\b", "\\bhashCode\\b", "\\bSystem\\.(?!arraycopy)",
        "\\bThread\\b", "\\bjava\\.", "(?m)^(?!.*static final class ).*\\bclass (?!LinenTunnel)", "[^\\x00-\\x7F]",
    };
    private static final Due due = new Due("LanguageTest");

    public static void main(String[] args) throws Exception {
        String text = withoutComments(Files.readString(SOURCE, StandardCharsets.UTF_8));
        for (String pattern : RULED_OUT) {
            Matcher m = Pattern.compile(pattern).matcher(text);
            due.is("found " + pattern, m.find() ? 1 : 0, 0);
        }
        methodsAreShort(text);
        rowsAreMadeInOnePlace(text);
        due.end();
    }

    private static String withoutComments(String text) {
        return text.replaceAll("(?s)/\\*.*?\\*/", "").replaceAll("//[^\n]*", "");
    }

    private static void methodsAreShort(String text) {
        Matcher m = Pattern.compile("(?m)^( {4}| {8})(?! |.*\\bclass\\b)[\\w\\[\\] ]+\\(([^)]*)\\) \\{$").matcher(text);
        int methods = 0;
        while (m.find()) {
            int end = text.indexOf("\n" + m.group(1) + "}", m.end());
            long lines = text.substring(m.start(), Math.max(end, m.end())).lines().count();
            if (!m.group().matches("\\s*(if|for|while|switch|else)\\b.*")) {
                methods++;
                due.is(m.group().trim() + " is short", lines <= MOST_LINES ? 1 : 0, 1);
                due.is(m.group().trim() + " takes seven at most", m.group(2).split(",").length <= 7 ? 1 : 0, 1);
            }
        }
        due.is("methods are found", methods > 31 ? 1 : 0, 1);
    }

    /** Every array is behind Row, and rows are made with the fields that hold them. */
    private static void rowsAreMadeInOnePlace(String text) {
        due.is("arrays are made", text.split("new int\\[", -1).length - 1, 1);
        due.is("an index in brackets, in read, write and fill", text.split("items\\[", -1).length - 1, 3);
        Matcher m = Pattern.compile("(?m)^.*\\bnew Row\\(.*$").matcher(text);
        while (m.find()) {
            due.is(m.group().trim(), m.group().trim().startsWith("private final Row ") ? 1 : 0, 1);
        }
    }
}
