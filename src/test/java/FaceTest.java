import java.lang.reflect.Constructor;
import java.lang.reflect.Field;
import java.lang.reflect.Method;
import java.lang.reflect.Modifier;
import java.util.Set;
import java.util.TreeSet;

/** The public face: what the document names, and nothing else that others could see. */
public final class FaceTest {
    public static void main(String[] args) {
        Set<String> want = Set.of(
            "public static final int DownFrames.NONE",
            "public DownFrames(int)",
            "public boolean DownFrames.give(long,int)",
            "public int DownFrames.send(int)",
            "public int DownFrames.frame(int)",
            "public int DownFrames.byteAt(int)",
            "public int DownFrames.waiting(int)",
            "public int DownFrames.count(int)");
        Set<String> got = new TreeSet<>();
        for (Field field : DownFrames.class.getDeclaredFields()) {
            addIfSeen(got, field.getModifiers(), field.toString());
            boolean changes = Modifier.isStatic(field.getModifiers()) && !Modifier.isFinal(field.getModifiers());
            Due.due("static and not final: " + field, changes, false);
        }
        for (Constructor<?> constructor : DownFrames.class.getDeclaredConstructors()) {
            addIfSeen(got, constructor.getModifiers(), constructor.toString());
        }
        for (Method method : DownFrames.class.getDeclaredMethods()) {
            addIfSeen(got, method.getModifiers(), method.toString());
        }
        for (String member : want) {
            Due.due("the face has " + member, got.contains(member), true);
        }
        for (String member : got) {
            Due.due("the document has " + member, want.contains(member), true);
        }
        int modifiers = DownFrames.class.getModifiers();
        Due.due("public and final", Modifier.isPublic(modifiers) && Modifier.isFinal(modifiers), true);
        Due.due("its class above is Object", DownFrames.class.getSuperclass() == Object.class, true);
        Due.due("interfaces", DownFrames.class.getInterfaces().length, 0);
        Due.due("NONE", DownFrames.NONE, -1);
        classesInside();
        Due.end();
    }

    private static void classesInside() {
        Set<String> face = Set.of("give", "send", "frame", "byteAt", "waiting", "count");
        for (Method method : DownFrames.class.getDeclaredMethods()) {
            boolean again = Modifier.isPrivate(method.getModifiers()) && face.contains(method.getName());
            Due.due("private, with a public one's name: " + method, again, false);
        }
        for (Class<?> inside : DownFrames.class.getDeclaredClasses()) {
            int modifiers = inside.getModifiers();
            Due.due(inside + " is static", Modifier.isStatic(modifiers), true);
            Due.due(inside + " is seen", Modifier.isPublic(modifiers) || Modifier.isProtected(modifiers), false);
            for (Method method : inside.getDeclaredMethods()) {
                Due.due("a public one's name: " + method, face.contains(method.getName()), false);
            }
        }
    }

    private static void addIfSeen(Set<String> seen, int modifiers, String member) {
        if (!Modifier.isPrivate(modifiers)) {
            seen.add(member);
        }
    }
}
