import java.lang.reflect.Constructor;
import java.lang.reflect.Field;
import java.lang.reflect.Method;
import java.lang.reflect.Modifier;
import java.util.Arrays;
import java.util.HashSet;
import java.util.List;
import java.util.Set;
import java.util.TreeSet;

/** The class shows the document's face and nothing else (LANGUAGE.md, rules 1, 5 and 11). */
public final class FaceTest {
    private static final List<String> FACE = List.of(
            "public static final int ThingHeap.REFUSED",
            "public static final int ThingHeap.NONE",
            "public static final int ThingHeap.FULL",
            "public ThingHeap()",
            "public int ThingHeap.make(int)",
            "public int ThingHeap.root(int,int)",
            "public int ThingHeap.point(int,int)",
            "public int ThingHeap.note(int,int)",
            "public int ThingHeap.turn(int,int,int)",
            "public int ThingHeap.take(int,int)",
            "public long ThingHeap.item(int,int)",
            "public int ThingHeap.held(int)",
            "public int ThingHeap.holders(int)",
            "public int ThingHeap.items(int)",
            "public int ThingHeap.collect()",
            "public int ThingHeap.count(int)");

    private static int wrong = 0;

    private static void fault(String text) {
        wrong++;
        System.out.println(text);
    }

    public static void main(String[] args) {
        int modifiers = ThingHeap.class.getModifiers();
        if (!Modifier.isPublic(modifiers) || !Modifier.isFinal(modifiers)) {
            fault("the class is not public and final");
        }
        checkFace();
        checkNames();
        checkFields();
        for (Class<?> inside : ThingHeap.class.getDeclaredClasses()) {
            if (!Modifier.isStatic(inside.getModifiers())) {
                fault(inside.getName() + " is not static");
            }
        }
        System.out.println(wrong == 0 ? "the face is as due" : wrong + " faults of the face");
        if (wrong != 0) {
            System.exit(1);
        }
    }

    private static void checkFace() {
        Set<String> seen = new TreeSet<>();
        for (Field field : ThingHeap.class.getDeclaredFields()) {
            addIfVisible(seen, field.getModifiers(), field.toString());
        }
        for (Constructor<?> constructor : ThingHeap.class.getDeclaredConstructors()) {
            addIfVisible(seen, constructor.getModifiers(), constructor.toString());
        }
        for (Method method : ThingHeap.class.getDeclaredMethods()) {
            addIfVisible(seen, method.getModifiers(), method.toString());
        }
        Set<String> due = new TreeSet<>(FACE);
        for (String member : due) {
            if (!seen.contains(member)) {
                fault("missing: " + member);
            }
        }
        for (String member : seen) {
            if (!due.contains(member)) {
                fault("not in the document: " + member);
            }
        }
    }

    private static void addIfVisible(Set<String> seen, int modifiers, String member) {
        if (!Modifier.isPrivate(modifiers)) {
            seen.add(member);
        }
    }

    private static void checkNames() {
        Set<String> open = new HashSet<>();
        for (Method method : ThingHeap.class.getMethods()) {
            open.add(method.getName());
        }
        for (Method method : ThingHeap.class.getDeclaredMethods()) {
            if (Modifier.isPrivate(method.getModifiers()) && open.contains(method.getName())) {
                fault("a private method bears a public name: " + method);
            }
            if (method.getParameterCount() > 7) {
                fault("more than seven parameters: " + method);
            }
        }
    }

    private static void checkFields() {
        for (Field field : Arrays.asList(ThingHeap.class.getDeclaredFields())) {
            if (Modifier.isStatic(field.getModifiers()) && !Modifier.isFinal(field.getModifiers())) {
                fault("a static field is not final: " + field);
            }
        }
    }
}
