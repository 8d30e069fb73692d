import java.io.IOException;
import java.nio.charset.StandardCharsets;
import java.nio.file.Files;
import java.nio.file.Path;
import java.util.ArrayList;
import java.util.List;
import java.util.regex.Matcher;
import java.util.regex.Pattern;

/** What can be seen of LANGUAGE.md's rules in the source itself, run from the project's folder. */
public final class GlassLeadersLanguage {
    private static int wrong = 0;

    private static void say(String what) {
        wrong++;
        System.out.println(what);
    }

    private static void none(String rule, String code, String pattern) {
        Matcher m = Pattern.compile(pattern).matcher(code);
        while (m.find()) {
            say("rule " + rule + ", line " + line(code, m.start()) + ": " + m.group());
        }
    }

    private static int line(String code, int at) {
        int line = 1;
        for (int i = 0; i < at; i++) {
            line += code.charAt(i) == '\n' ? 1 : 0;
        }
        return line;
    }

    /** The code without comments and with empty texts; lines stay where they are. */
    private static String bare(String source) {
        StringBuilder b = new StringBuilder();
        Matcher m = Pattern.compile("/\\*.*?\\*/|//[^\n]*|\"(\\\\.|[^\"\\\\])*\"|'(\\\\.|[^'\\\\])'",
                Pattern.DOTALL).matcher(source);
        int last = 0;
        while (m.find()) {
            b.append(source, last, m.start());
            b.append(m.group().startsWith("\"") ? "\"\"" : m.group().startsWith("'") ? "' '" : "");
            b.append("\n".repeat((int) m.group().chars().filter(c -> c == '\n').count()));
            last = m.end();
        }
        return b.append(source.substring(last)).toString();
    }

    private static final Pattern METHOD = Pattern.compile(
            "\n( {4}| {8})((?:public |private |static |final )*)([\\w\\[\\]]+ )?(\\w+)\\(([^)]*)\\)[^;{]*\\{");

    private static void methods(String code) {
        List<String> open = new ArrayList<>();
        List<String> hidden = new ArrayList<>();
        Matcher m = METHOD.matcher(code);
        while (m.find()) {
            String indent = m.group(1);
            String name = m.group(4);
            (m.group(2).contains("public") ? open : hidden).add(name);
            int end = code.indexOf("\n" + indent + "}", m.end());
            int lines = line(code, end) - line(code, m.start());
            if (lines > 60) {
                say("rule 11: " + name + " has " + lines + " lines");
            }
            if (m.group(5).split(",").length > 7) {
                say("rule 11: " + name + " has too many parameters");
            }
        }
        if (open.size() != 51 || hidden.size() < 50) {
            say("methods found: " + open.size() + " public, " + hidden.size() + " others");
        }
        hidden.retainAll(open);
        hidden.remove("GlassLeaders");
        if (!hidden.isEmpty()) {
            say("rule 1: names of the face: " + hidden);
        }
    }

    private static void classes(String code) {
        Matcher m = Pattern.compile("\\bclass (\\w+)").matcher(code);
        int classes = 0;
        while (m.find()) {
            classes++;
        }
        if (classes > 12) {
            say("rule 11: " + classes + " classes");
        }
        none("2", code, "\n    private (?!static final )[^;({=]*class ");
        none("1", code, "\n    (?!public |private |\\}|@|\\s)\\w[^\n]*");
        none("1", code, "\n        (public|protected) [^\n]*");
        none("5", code, "\\bstatic (?!final |class |boolean \\w+\\(|int \\w+\\(|long \\w+\\()[^\n]*");
    }

    public static void main(String[] args) throws IOException {
        byte[] bytes = Files.readAllBytes(Path.of("src/main/java/GlassLeaders.java"));
        String source = new String(bytes, StandardCharsets.ISO_8859_1);
        for (byte b : bytes) {
            if (b < 1) {
                say("rule 4: a sign that is not 1 to 127");
                break;
            }
        }
        String code = bare(source);
        none("0", code, "\npackage[^\n]*");
        none("4", code, "import (?!java\\.util\\.Arrays;|java\\.util\\.NoSuchElementException;)[^\n]*");
        none("2", code, "->|::");
        none("3", code, "\\b(var|Object|Map|HashMap|Set|BigInteger|Optional)\\b");
        none("4", code, "\\bMath\\.(?!min\\(|max\\(|abs\\()\\w+|\\bSystem\\.(?!arraycopy)\\w+|\\w+Exact\\(");
        none("4", code, "\\bArrays\\.(?!fill\\(|copyOf\\(|copyOfRange\\()\\w+");
        none("6", code, "\\b(try|catch|finally|synchronized|assert|hashCode|getMessage)\\b");
        none("6", code, "throw new (?!IllegalStateException|IllegalArgumentException|IndexOutOfBoundsException"
                + "|NoSuchElementException)[^\n]*");
        none("7", code, "[^\n]*\\bnull\\b[^\n]*");
        none("10", code, "\"\" \\+|\\+ \"\"");
        none("13", code, "\\b(Random|Thread|nanoTime|currentTimeMillis|File|Files|getenv)\\b");
        methods(code);
        classes(code);
        System.out.println(wrong == 0 ? "the language is kept to" : wrong + " places are not as due");
        if (wrong != 0) {
            System.exit(1);
        }
    }
}
