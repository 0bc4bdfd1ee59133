import java.io.IOException;
import java.nio.charset.StandardCharsets;
import java.nio.file.Files;
import java.nio.file.Paths;
import java.util.ArrayList;
import java.util.Arrays;
import java.util.HashSet;
import java.util.List;
import java.util.Set;
import java.util.regex.Matcher;
import java.util.regex.Pattern;

/** Rules of ../shared/LANGUAGE.md that a look at the program's text can tell. */
public final class LanguageTest {
    private static final Check CHECK = new Check("LanguageTest");
    private static final String FILE = "src/main/java/RepairGroups.java";
    private static final Set<String> NEVER = new HashSet<>(Arrays.asList(
        "throw", "throws", "try", "catch", "finally", "synchronized", "assert", "package", "native", "volatile",
        "Object", "hashCode", "getClass", "Thread", "Runtime", "nanoTime", "currentTimeMillis", "Random"));
    private static final Set<String> OF_ARRAYS = new HashSet<>(Arrays.asList("copyOf", "copyOfRange", "fill"));

    public static void main(String[] args) throws IOException {
        String source = Files.readString(Paths.get(FILE), StandardCharsets.UTF_8);
        signs(source);
        String code = withoutComments(source);
        words(code);
        library(code);
        methods(code);
        CHECK.end();
    }

    private static void yes(String what, boolean isSo) {
        CHECK.due(what, isSo ? 1 : 0, 1);
    }

    private static void signs(String source) {
        for (int i = 0; i < source.length(); i++) {
            char sign = source.charAt(i);
            if (sign > 126 || sign < 32 && sign != '\n') {
                CHECK.due("sign at " + i, sign, ' ');
            }
        }
    }

    private static String withoutComments(String source) {
        return source.replaceAll("(?s)/\\*.*?\\*/", " ").replaceAll("//[^\n]*", " ");
    }

    private static void words(String code) {
        Matcher word = Pattern.compile("[A-Za-z_][A-Za-z_0-9]*").matcher(code);
        while (word.find()) {
            if (NEVER.contains(word.group())) {
                CHECK.due("the word " + word.group(), 1, 0);
            }
        }
        yes("no method reference", !code.contains("::"));
        yes("no texts joined by +", !Pattern.compile("\"\\s*\\+|\\+\\s*\"").matcher(code).find());
        yes("no static block", !Pattern.compile("static\\s*\\{").matcher(code).find());
        yes("no lambda", !Pattern.compile("(?m)^(?!\\s*(case|default)\\b).*->").matcher(code).find());
        yes("no loop without an end in its head", !Pattern.compile("while\\s*\\(true\\)|for\\s*\\(;;").matcher(code).find());
        int classes = 0;
        Matcher type = Pattern.compile("\\b(class|interface|enum|record)\\s+\\w+").matcher(code);
        while (type.find()) {
            classes++;
        }
        yes("some twelve classes", classes <= 14);
    }

    private static void library(String code) {
        Matcher call = Pattern.compile("\\b(\\w+)\\.(\\w+)").matcher(code);
        int found = 0;
        while (call.find()) {
            String of = call.group(1);
            String name = call.group(2);
            found++;
            if (of.equals("System")) {
                yes(call.group() + " is of the library", name.equals("arraycopy"));
            } else if (of.equals("Arrays")) {
                yes(call.group() + " is of the library", OF_ARRAYS.contains(name));
            } else if (of.equals("Math") || of.equals("Integer") || of.equals("Long")) {
                yes(call.group() + " is of the library", !name.endsWith("Exact"));
            } else if (of.equals("java")) {
                yes(call.group() + " is of the library", name.equals("util"));
            }
        }
        yes("names with a dot were found: " + found, found > 0);
    }

    /** Methods are told by their indentation. */
    private static void methods(String code) {
        Pattern head = Pattern.compile("^( {4}| {8})((?:public |private |static |final )*)(\\w+(?:\\[\\])* )?(\\w+)\\(([^)]*)\\) \\{$");
        List<String> lines = new ArrayList<>(Arrays.asList(code.split("\n")));
        int found = 0;
        for (int i = 0; i < lines.size(); i++) {
            Matcher m = head.matcher(lines.get(i));
            if (!m.matches() || m.group(4).equals("if") || m.group(4).equals("for")) {
                continue;
            }
            found++;
            int end = lines.subList(i, lines.size()).indexOf(m.group(1) + "}");
            yes(m.group(4) + " is short", end > 0 && end <= 60);
            yes(m.group(4) + " takes seven at most", m.group(5).split(",").length <= 7);
        }
        yes("methods were found: " + found, found > 32);
    }
}
