import java.io.IOException;
import java.nio.charset.StandardCharsets;
import java.nio.file.Files;
import java.nio.file.Path;
import java.nio.file.Paths;
import java.util.ArrayList;
import java.util.List;

/**
 * The document, gone through from its first line on: all its words but the heads are quoted, in their order, and
 * what is asked behind a quotation is asked by it.
 */
final class Doc {
    private static final Path FILE = Paths.get("../shared/DOC.md");

    final Check check;
    /** Rows of the public face. */
    final List<String> face = new ArrayList<>();
    private final String words;
    private final boolean isThere;
    private int place;

    /** Where the document isn't beside the checkout, what is due is looked at all the same. */
    Doc(String name) throws IOException {
        check = new Check(name);
        isThere = Files.exists(FILE);
        words = isThere ? read() : "";
        if (!isThere) {
            System.out.println(name + ": no " + FILE + ", so its words are not looked up");
        }
    }

    private String read() throws IOException {
        StringBuilder all = new StringBuilder();
        boolean isFace = false;
        for (String line : Files.readAllLines(FILE, StandardCharsets.UTF_8)) {
            if (line.startsWith("```")) {
                isFace = line.equals("```java");
            } else if (isFace) {
                face.add(line.trim());
            } else if (!line.startsWith("#")) {
                all.append(line).append(' ');
            }
        }
        return all.toString().replaceAll("\\s+", " ").trim();
    }

    /** The document goes on with these words, and answers are looked at that are due by them. */
    void says(String quoted) {
        boolean isNext = isNext(quoted);
        check.sentence(quoted.length() <= 60 ? quoted : quoted.substring(0, 60) + " ..");
        if (!isNext) {
            check.yes("the document goes on so: " + rest(), false);
        }
        pass(quoted);
    }

    /** The document goes on with these words, which no call answers by. */
    void tells(String quoted) {
        check.sentence(quoted);
        check.yes("the document goes on so: " + rest(), isNext(quoted));
        pass(quoted);
    }

    private boolean isNext(String quoted) {
        return !isThere || words.startsWith(quoted, place);
    }

    private String rest() {
        return words.substring(place, Math.min(words.length(), place + 60));
    }

    /** Where it goes on otherwise, the next quotation is looked for where this one ends. */
    private void pass(String quoted) {
        int found = words.indexOf(quoted, place);
        place = found < 0 ? place : found + quoted.length();
        while (place < words.length() && words.charAt(place) == ' ') {
            place++;
        }
    }

    /** All was quoted. */
    void end() {
        check.sentence("the end");
        check.due("signs that are not quoted", words.length() - place, 0);
        check.end();
    }

    /** A store of NODES as they come: "KIND v" is a DATA, "KIND v FORM" a PARITY. */
    RepairGroups store(String... nodes) {
        RepairGroups x = new RepairGroups();
        come(x, nodes);
        return x;
    }

    void come(RepairGroups x, String... nodes) {
        for (String node : nodes) {
            String[] parts = node.split(" ");
            int kind = Integer.parseInt(parts[0]);
            int v = Integer.parseInt(parts[1]);
            int number = x.count(0);
            check.due(node, parts.length == 2 ? x.data(kind, v) : Check.parity(x, kind, v, parts[2]), number);
        }
    }
}
