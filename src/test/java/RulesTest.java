import java.io.IOException;
import java.nio.file.Files;
import java.nio.file.Path;
import java.util.regex.Matcher;
import java.util.regex.Pattern;

/** Those rules of LANGUAGE.md that can be seen in the program's text. Run from the top folder. */
public final class RulesTest {
    private static final Path PROGRAM = Path.of("src/main/java/LiftScheduler.java");
    private static final int MOST_LINES = 60;
    private static final int MOST_PARAMETERS = 7;
    private static final int MOST_FIELDS = 20;
    private static final int MOST_CLASSES = 12;
    private static final String[] FORBIDDEN = {
        "\\bpackage\\b", "\\bimport (?!java\\.util\\.)", "->", "::", "\\bfinally\\b",
        "\\bsynchronized\\b", "\\bassert\\b", "Exact\\(", "\\bprotected\\b", "\\bstatic\\s*\\{",
        "\\bhashCode\\(", "\\bSystem\\.(?!arraycopy)", "\\bRandom\\b", "\\bThread\\b",
        "\\bfor \\(;;\\)", "while \\(true\\)", "\"\"\\s*\\+", "\\+\\s*\"\""};

    public static void main(String[] args) throws IOException {
        String text = withoutCommentsAndTexts(Files.readString(PROGRAM));
        for (String pattern : FORBIDDEN) {
            Matcher found = Pattern.compile(pattern).matcher(text);
            if (found.find()) {
                Check.wrong("line " + lineOf(text, found.start()) + " has " + found.group());
            }
        }
        plainSigns(text);
        exceptions(text);
        methods(text);
        classes(text);
        Check.end();
    }

    /** Keeps the line ends, so that lines can still be counted. */
    private static String withoutCommentsAndTexts(String source) {
        Pattern dropped = Pattern.compile("(?s)/\\*.*?\\*/|//[^\n]*|\"(?:[^\"\\\\\n]|\\\\.)*\"");
        return dropped.matcher(source).replaceAll(found -> {
            String lines = found.group().replaceAll("[^\n]", "");
            return found.group().startsWith("\"") ? "\"\"" : lines;
        });
    }

    private static void plainSigns(String text) {
        for (int i = 0; i < text.length(); i++) {
            if (text.charAt(i) > 126) {
                Check.wrong("line " + lineOf(text, i) + " has a sign over 126");
            }
        }
    }

    private static void exceptions(String text) {
        Matcher thrown = Pattern.compile("\\bthrow\\b([^;]*);").matcher(text);
        while (thrown.find()) {
            boolean plain = thrown.group(1).matches(" new (IllegalState|IllegalArgument"
                    + "|IndexOutOfBounds)Exception\\(\"\"\\)");
            Check.same("line " + lineOf(text, thrown.start()) + ": " + thrown.group(), plain, true);
        }
    }

    private static void methods(String text) {
        Pattern head = Pattern.compile("(?m)^( +)(?:[\\w\\[\\]]+ )*\\w+\\(([^()]*)\\)[^;{}()=]*\\{$");
        Matcher method = head.matcher(text);
        int methods = 0;
        while (method.find()) {
            if (method.group().matches("(?s) +(if|for|while|switch|\\} else|return)\\b.*")) {
                continue;
            }
            methods++;
            int end = text.indexOf("\n" + method.group(1) + "}", method.end());
            int lines = lineOf(text, end) - lineOf(text, method.start());
            String where = "line " + lineOf(text, method.start());
            Check.same(where + ", lines " + lines, lines <= MOST_LINES, true);
            int parameters = method.group(2).split(",").length;
            Check.same(where + ", parameters " + parameters, parameters <= MOST_PARAMETERS, true);
        }
        Check.same("methods were found", methods > 64, true);
    }

    private static void classes(String text) {
        Matcher kind = Pattern.compile("(?m)^( *)(?:\\w+ )*(?:class|enum) (\\w+) \\{$").matcher(text);
        int classes = 0;
        while (kind.find()) {
            classes++;
            int end = text.indexOf("\n" + kind.group(1) + "}", kind.end());
            String field = "(?m)^" + kind.group(1) + "    (?:private )?(?:final )?"
                    + "(?!return)[\\w\\[\\]]+ \\w+(?: = [^;]*)?;$";
            long fields = Pattern.compile(field).matcher(text.substring(kind.end(), end)).results().count();
            Check.same("fields of " + kind.group(2) + ": " + fields, fields <= MOST_FIELDS, true);
        }
        Check.same("classes: " + classes, classes > 1 && classes <= MOST_CLASSES, true);
    }

    private static int lineOf(String text, int index) {
        return (int) text.substring(0, index).chars().filter(c -> c == '\n').count() + 1;
    }
}
