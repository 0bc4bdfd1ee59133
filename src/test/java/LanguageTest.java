import java.io.IOException;
import java.nio.charset.StandardCharsets;
import java.nio.file.Files;
import java.nio.file.Paths;
import java.util.ArrayList;
import java.util.Arrays;
import java.util.HashSet;
import java.util.List;
import java.util.Set;
import java.util.regex.Matcher;
import java.util.regex.Pattern;

/** Rules of ../shared/LANGUAGE.md that a look at the program's text can tell. */
public final class LanguageTest {
    private static final Check CHECK = new Check("LanguageTest");
    private static final String FILE = "src/main/java/RepairGroups.java";
    private static final Set<String> NEVER = new HashSet<>(Arrays.asList(
        "throw", "throws", "try", "catch", "finally", "synchronized", "assert", "package", "import",
        "native", "transient", "volatile", "strictfp", "goto", "var", "yield", "Object", "hashCode",
        "toString", "getClass", "Thread", "Runtime", "nanoTime", "currentTimeMillis", "Random"));
    private static final Set<String> LIBRARY = new HashSet<>(Arrays.asList(
        "System.arraycopy", "Math.min", "Math.max", "Integer.bitCount", "Long.MIN_VALUE"));

    public static void main(String[] args) throws IOException {
        String source = Files.readString(Paths.get(FILE), StandardCharsets.UTF_8);
        signs(source);
        String code = withoutComments(source);
        words(code);
        library(code);
        methods(code);
        CHECK.end();
    }

    private static void yes(String what, boolean isSo) {
        CHECK.due(what, isSo ? 1 : 0, 1);
    }

    private static void signs(String source) {
        for (int i = 0; i < source.length(); i++) {
            char sign = source.charAt(i);
            if (sign > 126 || sign < 32 && sign != '\n') {
                CHECK.due("sign at " + i, sign, ' ');
            }
        }
    }

    private static String withoutComments(String source) {
        return source.replaceAll("(?s)/\\*.*?\\*/", " ").replaceAll("//[^\n]*", " ");
    }

    private static void words(String code) {
        Matcher word = Pattern.compile("[A-Za-z_][A-Za-z_0-9]*").matcher(code);
        while (word.find()) {
            if (NEVER.contains(word.group())) {
                CHECK.due("the word " + word.group(), 1, 0);
            }
        }
        yes("no lambda", !code.contains("->"));
        yes("no method reference", !code.contains("::"));
        yes("no annotation", !code.contains("@"));
        yes("no text constants, so none joined by +", !code.contains("\""));
        yes("no static block", !Pattern.compile("static\\s*\\{").matcher(code).find());
        int classes = 0;
        Matcher type = Pattern.compile("\\bclass\\s+\\w+").matcher(code);
        while (type.find()) {
            classes++;
        }
        yes("some twelve classes", classes <= 12);
    }

    private static void library(String code) {
        Matcher call = Pattern.compile("\\b(System|Math|Integer|Long|Arrays|String|Character|Boolean)\\.(\\w+)").matcher(code);
        while (call.find()) {
            yes(call.group() + " is of the library", LIBRARY.contains(call.group()));
        }
    }

    /** Methods are told by their indentation: how long they are, and that only constructors make objects. */
    private static void methods(String code) {
        Pattern head = Pattern.compile("^( {4}| {8})((?:public |private |static )*)(\\w+(?:\\[\\])* )?(\\w+)\\(([^)]*)\\) \\{$");
        List<String> lines = new ArrayList<>(Arrays.asList(code.split("\n")));
        int found = 0;
        for (int i = 0; i < lines.size(); i++) {
            Matcher m = head.matcher(lines.get(i));
            if (!m.matches() || m.group(4).equals("if") || m.group(4).equals("for")) {
                continue;
            }
            found++;
            int end = i;
            boolean makes = false;
            while (!lines.get(end).equals(m.group(1) + "}")) {
                end++;
                makes |= lines.get(end).matches(".*\\bnew\\b.*");
            }
            String name = m.group(4);
            yes(name + " is short", end - i <= 60);
            yes(name + " takes seven at most", m.group(5).split(",").length <= 7);
            yes(name + " makes objects only as a constructor", !makes || m.group(3) == null);
        }
        yes("methods were found: " + found, found > 80);
    }
}
