import java.lang.reflect.Constructor;
import java.lang.reflect.Field;
import java.lang.reflect.Method;
import java.lang.reflect.Modifier;
import java.util.Arrays;
import java.util.Set;
import java.util.TreeSet;

/** The class has the members of the document's face, and no other that can be seen from outside. */
public final class FaceTests {
    private static final Set<String> MEMBERS = new TreeSet<>(Arrays.asList(
        "public static final int BAD", "public static final int NO_ROOM",
        "public static final int NOT_DONE", "public static final int MORE",
        "public LeastCost()",
        "public int setCost(int,int)", "public int term(int,int)", "public int end(int)",
        "public int run(int)", "public int optimum()", "public int value(int)",
        "public int logSize()", "public int logAt(int)", "public int poke(int,int)",
        "public int cut(int)", "public int check(int)", "public int steps()"));

    public static void main(String[] args) {
        Due due = new Due();
        Set<String> seen = seenMembers();
        if (!seen.equals(MEMBERS)) {
            System.out.println("seen are " + seen);
        }
        due.holds("the face is the document's", seen.equals(MEMBERS));
        int modifiers = LeastCost.class.getModifiers();
        due.holds("the class is public and final", Modifier.isPublic(modifiers) && Modifier.isFinal(modifiers));
        due.holds("no private method bears a public one's name", !namesRepeat());
        due.is("BAD", -1, LeastCost.BAD);
        due.is("NO_ROOM", -2, LeastCost.NO_ROOM);
        due.is("NOT_DONE", -3, LeastCost.NOT_DONE);
        due.is("MORE", 2, LeastCost.MORE);
        due.finish();
    }

    private static Set<String> seenMembers() {
        Set<String> seen = new TreeSet<>();
        for (Field field : LeastCost.class.getDeclaredFields()) {
            addSeen(seen, field.getModifiers(), field.isSynthetic(), field.toString());
        }
        for (Method method : LeastCost.class.getDeclaredMethods()) {
            addSeen(seen, method.getModifiers(), method.isSynthetic(), method.toString());
        }
        for (Constructor<?> constructor : LeastCost.class.getDeclaredConstructors()) {
            addSeen(seen, constructor.getModifiers(), constructor.isSynthetic(), constructor.toString());
        }
        return seen;
    }

    private static void addSeen(Set<String> seen, int modifiers, boolean synthetic, String text) {
        if (!Modifier.isPrivate(modifiers) && !synthetic) {
            seen.add(text.replace("LeastCost.", ""));
        }
    }

    private static boolean namesRepeat() {
        Set<String> open = new TreeSet<>();
        for (String member : MEMBERS) {
            open.add(member.replaceAll("\\(.*", "").replaceAll(".* ", ""));
        }
        boolean repeat = false;
        for (Class<?> inside : LeastCost.class.getDeclaredClasses()) {
            for (Method method : inside.getDeclaredMethods()) {
                repeat |= open.contains(method.getName());
            }
        }
        for (Method method : LeastCost.class.getDeclaredMethods()) {
            repeat |= Modifier.isPrivate(method.getModifiers()) && open.contains(method.getName());
        }
        return repeat;
    }
}
