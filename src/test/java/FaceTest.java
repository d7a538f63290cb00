import java.lang.reflect.Field;
import java.lang.reflect.Method;
import java.lang.reflect.Modifier;
import java.util.Arrays;
import java.util.List;
import java.util.Set;
import java.util.TreeSet;

/** The public face (rule 1 of LANGUAGE.md), and that calls make no objects. */
public final class FaceTest {
    private static final List<String> FACE = List.of(
        "int letter(int)", "int blank()", "int fault()", "int routine()", "int step(int,int)", "int as(int,int)",
        "int at(int)", "int goes(int,int)", "int act(int)", "int whole()", "int exchange(int,int)", "int sort()",
        "int change(int,int,int)", "int round(int)", "int after(int,int)", "int rings(int)", "int bring(int,int,int)",
        "int home(int)", "int odds(int,int,int,int)", "int see(int,int,int)", "int forget()", "int runs(int,int,int)",
        "int image()", "int restore()", "int count(int)", "long digest()");
    private static final List<String> CONSTANTS = List.of("NONE", "UNKNOWN", "OUTSIDE", "STATE", "FULL");
    private static int wrong = 0;

    public static void main(String[] args) {
        face();
        constants();
        nested();
        makesNothingInCalls();
        System.out.println(wrong == 0 ? "the face is as told" : wrong + " faults of the face");
        if (wrong != 0) System.exit(1);
    }

    private static void due(boolean holds, String what) {
        if (!holds) {
            wrong++;
            System.out.println(what);
        }
    }

    private static void face() {
        due(Modifier.isFinal(DeckHands.class.getModifiers()), "the class is not final");
        due(DeckHands.class.getDeclaredConstructors().length == 1, "not one constructor");
        Set<String> seen = new TreeSet<>();
        Set<String> names = new TreeSet<>();
        for (Method m : DeckHands.class.getDeclaredMethods()) {
            if (Modifier.isPrivate(m.getModifiers())) continue;
            seen.add(m.getReturnType() + " " + m.getName()
                + Arrays.toString(m.getParameterTypes()).replace(", ", ",").replace('[', '(').replace(']', ')'));
            names.add(m.getName());
            due(m.getModifiers() == Modifier.PUBLIC, m + " is not public alone");
        }
        due(seen.equals(new TreeSet<>(FACE)), "the face is " + seen);
        for (Class<?> c : classes()) {
            for (Method m : c.getDeclaredMethods()) {
                boolean hidden = Modifier.isPrivate(m.getModifiers());
                due(!hidden || !names.contains(m.getName()), m + " bears a name of the face");
                due(m.getParameterCount() <= 7, m + " takes too many");
            }
            int fields = 0;
            for (Field f : c.getDeclaredFields()) {
                boolean isStatic = Modifier.isStatic(f.getModifiers());
                boolean told = c == DeckHands.class && CONSTANTS.contains(f.getName());
                due(told == Modifier.isPublic(f.getModifiers()), f + " is seen otherwise than told");
                due(told || Modifier.isPrivate(f.getModifiers()), f + " is seen");
                due(!isStatic || Modifier.isFinal(f.getModifiers()), f + " is static state");
                if (!isStatic) fields++;
            }
            due(fields <= 20, c + " has " + fields + " fields");
        }
    }

    private static void constants() {
        due(DeckHands.NONE == -1, "NONE is " + DeckHands.NONE);
        due(DeckHands.UNKNOWN == -101, "UNKNOWN is " + DeckHands.UNKNOWN);
        due(DeckHands.OUTSIDE == -102, "OUTSIDE is " + DeckHands.OUTSIDE);
        due(DeckHands.STATE == -103, "STATE is " + DeckHands.STATE);
        due(DeckHands.FULL == -104, "FULL is " + DeckHands.FULL);
    }

    private static List<Class<?>> classes() {
        List<Class<?>> all = new java.util.ArrayList<>(List.of(DeckHands.class));
        all.addAll(List.of(DeckHands.class.getDeclaredClasses()));
        return all;
    }

    private static void nested() {
        due(classes().size() <= 12, "too many classes");
        for (Class<?> c : DeckHands.class.getDeclaredClasses()) {
            due(Modifier.isPrivate(c.getModifiers()) && Modifier.isStatic(c.getModifiers()), c + " is not private and static");
        }
    }

    /** All calls live in one room, so the rows are made with the object and no call makes more. */
    private static void makesNothingInCalls() {
        com.sun.management.ThreadMXBean bean =
            (com.sun.management.ThreadMXBean) java.lang.management.ManagementFactory.getThreadMXBean();
        long thread = Thread.currentThread().getId();
        DeckHands[] rows = new DeckHands[50];
        for (int i = 0; i < rows.length; i++) rows[i] = new DeckHands();
        for (int i = 0; i < 10; i++) useAll(rows[i]);
        long before = bean.getThreadAllocatedBytes(thread);
        for (int i = 10; i < rows.length; i++) useAll(rows[i]);
        long made = bean.getThreadAllocatedBytes(thread) - before;
        due(made < 10000, "40 objects made " + made + " bytes in their calls");
    }

    private static long useAll(DeckHands x) {
        int[] text = {'1', '2', ';', 's', '4', ',', 'c', '5', ',', 'd', '3', ',', 't', '6', ',', 'o', '5', ',', 's', '9'};
        long sum = 0;
        for (int code : text) sum += x.letter(code);
        sum += x.fault() + x.routine() + x.image();
        for (int s = 0; s < 6; s++) {
            sum += x.act(s) + x.as(s, 2) + x.goes(s, 3) + x.see(s, 0, 1) + x.change(s, s % 5, 9 - s);
            for (int what = 0; what < 6; what++) sum += x.step(s, what);
        }
        for (int i = 0; i < 30; i++) sum += x.home(i % 2) + x.whole() + x.exchange(0, 1);
        for (int p = 0; p < 12; p++) sum += x.at(p) + x.round(p) + x.after(p, 99) + x.bring(p, 0, 1) + x.odds(p, 0, 8, 1);
        for (int what = 0; what < 9; what++) sum += x.count(what) + x.rings(what) + x.runs(99, 7, what);
        return sum + x.restore() + x.forget() + x.sort() + x.blank() + x.digest();
    }
}
