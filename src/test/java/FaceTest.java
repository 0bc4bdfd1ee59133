import java.lang.reflect.Constructor;
import java.lang.reflect.Field;
import java.lang.reflect.Member;
import java.lang.reflect.Method;
import java.lang.reflect.Modifier;
import java.util.Arrays;
import java.util.Set;
import java.util.TreeSet;

/** The public face: all of the document's and nothing else; and one object knows nothing of another. */
public final class FaceTest {
    private static final Check CHECK = new Check("FaceTest");
    private static final String[] FACE = {
        "int field(int)", "int calc(int,int,int)", "int data(int,int)", "int feed(int)",
        "int parity(int,int)", "int row(int,int,int)", "int of(int,int)", "int write(int,int)",
        "int lose(int)", "int repair(int)", "int told(int)", "int rank(int)", "int safe(int)",
        "int best(int,int,int)", "int see(int,int)", "long ways(int)", "int can(int)",
        "long odds(int,int)", "long mean(int)", "int plan(int,int)", "int ends(int)",
        "int book(int,int)", "int looked()", "int judge(int,int)", "int image()", "int undo()",
        "int taken(int,int)", "int count(int)", "int tape(int,int,int)", "int item(int,int,long)",
        "long read(int,int)", "int shift(int,int,int,int,int)"};

    public static void main(String[] args) {
        classItself();
        constants();
        methods();
        constructors();
        twoObjects();
        CHECK.end();
    }

    private static void yes(String what, boolean isSo) {
        CHECK.due(what, isSo ? 1 : 0, 1);
    }

    private static void classItself() {
        int modifiers = RepairGroups.class.getModifiers();
        yes("public class", Modifier.isPublic(modifiers));
        yes("final class", Modifier.isFinal(modifiers));
        yes("under Object", RepairGroups.class.getSuperclass() == Object.class);
        yes("no interfaces", RepairGroups.class.getInterfaces().length == 0);
        for (Class<?> inside : RepairGroups.class.getDeclaredClasses()) {
            yes(inside + " is static", Modifier.isStatic(inside.getModifiers()));
            yes(inside + " is hidden", !isFace(inside.getModifiers()));
            yes(inside + " has some twenty fields", fieldsOf(inside) <= 22);
        }
        yes("some twenty fields", fieldsOf(RepairGroups.class) <= 22);
        yes("some twelve classes", RepairGroups.class.getDeclaredClasses().length <= 13);
    }

    /** Beside its constants. */
    private static int fieldsOf(Class<?> type) {
        int fields = 0;
        for (Field field : type.getDeclaredFields()) {
            fields += Modifier.isStatic(field.getModifiers()) ? 0 : 1;
        }
        return fields;
    }

    private static boolean isFace(int modifiers) {
        return Modifier.isPublic(modifiers) || Modifier.isProtected(modifiers);
    }

    private static void constants() {
        CHECK.due("NONE", RepairGroups.NONE, -1);
        CHECK.due("BAD", RepairGroups.BAD, -2);
        CHECK.due("STATE", RepairGroups.STATE, -3);
        CHECK.due("FULL", RepairGroups.FULL, -4);
        CHECK.due("NO", RepairGroups.NO, Long.MIN_VALUE);
        Set<String> names = new TreeSet<>();
        for (Field field : RepairGroups.class.getDeclaredFields()) {
            if (!Modifier.isPrivate(field.getModifiers())) {
                names.add(field.getType() + " " + field.getName() + " " + Modifier.toString(field.getModifiers()));
            }
            if (Modifier.isStatic(field.getModifiers())) {
                yes(field + " is final", Modifier.isFinal(field.getModifiers()));
            }
        }
        Set<String> want = new TreeSet<>();
        for (String name : new String[] {"int NONE", "int BAD", "int STATE", "int FULL", "long NO"}) {
            want.add(name + " public static final");
        }
        yes("constants " + names, names.equals(want));
    }

    private static String shortly(Method method) {
        StringBuilder text = new StringBuilder();
        for (Class<?> type : method.getParameterTypes()) {
            text.append(text.length() == 0 ? "" : ",").append(type);
        }
        return method.getReturnType() + " " + method.getName() + "(" + text + ")";
    }

    private static void methods() {
        Set<String> publics = new TreeSet<>();
        Set<String> names = new TreeSet<>();
        for (Method method : RepairGroups.class.getDeclaredMethods()) {
            int modifiers = method.getModifiers();
            if (Modifier.isPrivate(modifiers)) {
                continue;
            }
            yes(method + " is public and no more", Modifier.toString(modifiers).equals("public"));
            publics.add(shortly(method));
            names.add(method.getName());
        }
        yes("methods " + publics, publics.equals(new TreeSet<>(Arrays.asList(FACE))));
        CHECK.due("how many", publics.size(), 32);
        for (Method method : RepairGroups.class.getDeclaredMethods()) {
            yes(method + " bears no public name", !Modifier.isPrivate(method.getModifiers()) || !names.contains(method.getName()));
        }
        for (Class<?> inside : RepairGroups.class.getDeclaredClasses()) {
            for (Method method : inside.getDeclaredMethods()) {
                yes(method + " bears no public name", !Modifier.isPrivate(method.getModifiers()) || !names.contains(method.getName()));
                yes(method + " takes seven at most", method.getParameterCount() <= 7);
            }
        }
    }

    private static void constructors() {
        Constructor<?>[] all = RepairGroups.class.getDeclaredConstructors();
        CHECK.due("constructors", all.length, 1);
        Member only = all[0];
        yes("it is public", Modifier.isPublic(only.getModifiers()));
        CHECK.due("it takes nothing", all[0].getParameterCount(), 0);
    }

    private static void twoObjects() {
        RepairGroups x = new RepairGroups();
        RepairGroups y = new RepairGroups();
        x.field(31);
        x.feed('x');
        x.tape(0, 0, 1);
        x.image();
        x.data(0, 0);
        CHECK.due("the other's POLY", y.told(0), 19);
        CHECK.due("the other's NODES", y.count(0), 0);
        CHECK.due("the other's THE TEXT", y.count(5), 0);
        CHECK.due("the other's TAPES", y.item(0, 0, 0), -11);
        CHECK.due("the other's IMAGE", y.undo(), -3);
    }
}
