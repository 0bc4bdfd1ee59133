import java.io.IOException;
import java.lang.reflect.Constructor;
import java.lang.reflect.Field;
import java.lang.reflect.Method;
import java.lang.reflect.Modifier;
import java.util.ArrayList;
import java.util.Collections;
import java.util.List;

/** The document word by word, from its first line to its last; what is due was worked out by hand. */
public final class DocTest {
    public static void main(String[] args) throws IOException, IllegalAccessException {
        Doc doc = new Doc("DocTest");
        whatItIs(doc);
        new DocField(doc).all();
        new DocNodes(doc).all();
        new DocForms(doc).all();
        new DocTells(doc).all();
        new DocHands(doc).all();
        new DocTapes(doc).all();
        new DocPromises(doc).all();
        new DocLaterPromises(doc).all();
        notPromised(doc);
        doc.end();
    }

    private static void whatItIs(Doc doc) throws IllegalAccessException {
        doc.says("Store with local repair groups: data and parities over them in a small field that is built from one "
            + "polynomial, forms of parities read from texts; what is lost is got back from the cheapest few that tell it, "
            + "or not at all, if none do; every pattern of losses decided by rank, how many of so many losses can be stood, "
            + "the fewest that can't; nodes of kinds that cost more or less to read, by how often they were read; which "
            + "number in a parity is best; how many ways all could be by what was seen, the least of them, which symbols one "
            + "can have; odds, means, plans, books, symbols told by hand looked at, an image.");
        face(doc);
        doc.says("An object is used for at most 512 calls after it has been made; what later calls answer is free.");
        RepairGroups x = new RepairGroups();
        doc.check.due("call 1", x.data(3, 0), 0);
        doc.check.due("call 2", x.feed('x'), 1);
        doc.check.due("call 3", x.feed('0'), 2);
        doc.check.due("call 4", x.parity(0, 0), 1);
        for (int call = 5; call < 512; call += 3) {
            doc.check.due("call " + call, x.of(0, 3), (call - 5) / 3);
            doc.check.due("call " + (call + 1), x.lose(1), 0);
            doc.check.due("call " + (call + 2), x.repair(1), 0);
        }
    }

    /** The rows of the public face are those of the class. */
    private static void face(Doc doc) throws IllegalAccessException {
        List<String> want = new ArrayList<>(doc.face);
        List<String> have = new ArrayList<>();
        have.add("public final class RepairGroups {");
        have.add("public static final int NONE = -1, BAD = -2, STATE = -3, FULL = -4;");
        have.add("public static final long NO = Long.MIN_VALUE;");
        have.add("}");
        for (Constructor<?> made : RepairGroups.class.getConstructors()) {
            have.add("public RepairGroups(" + made.getParameterCount() + ");");
        }
        Collections.replaceAll(want, "public RepairGroups();", "public RepairGroups(0);");
        for (Method method : RepairGroups.class.getDeclaredMethods()) {
            if (Modifier.isPublic(method.getModifiers())) {
                have.add("public " + method.getReturnType() + " " + method.getName() + types(method));
            }
        }
        for (int i = 0; i < want.size(); i++) {
            want.set(i, want.get(i).startsWith("public int") || want.get(i).startsWith("public long")
                ? want.get(i).replaceAll("(int|long) \\w+(?=[,)])", "$1") : want.get(i));
        }
        Collections.sort(want);
        Collections.sort(have);
        doc.check.yes("the class has " + have + ", due is " + want, want.isEmpty() || have.equals(want));
        constants(doc);
    }

    private static String types(Method method) {
        StringBuilder text = new StringBuilder();
        for (Class<?> type : method.getParameterTypes()) {
            text.append(text.length() == 0 ? "" : ", ").append(type);
        }
        return "(" + text + ");";
    }

    private static void constants(Doc doc) throws IllegalAccessException {
        String[] names = {"NONE", "BAD", "STATE", "FULL", "NO"};
        long[] numbers = {-1, -2, -3, -4, Long.MIN_VALUE};
        int found = 0;
        for (Field field : RepairGroups.class.getFields()) {
            for (int i = 0; i < names.length; i++) {
                if (field.getName().equals(names[i])) {
                    doc.check.due(names[i], field.getLong(null), numbers[i]);
                    doc.check.yes(names[i] + " is a long only if it is NO", field.getType() == (i == 4 ? long.class : int.class));
                    found++;
                }
            }
        }
        doc.check.due("constants", found, 5);
        doc.check.due("fields of the face", RepairGroups.class.getFields().length, 5);
    }

    private static void notPromised(Doc doc) {
        doc.tells("How the state is held inside the object is free, as are the speed of each call, the text of toString and the "
            + "behaviour of equals and hashCode.");
        doc.tells("Use of one object from several threads at once is not promised to be safe.");
        doc.tells("Nothing is promised beyond the answers and state changes described above, and nothing about an object after "
            + "its 512th call.");
    }
}
