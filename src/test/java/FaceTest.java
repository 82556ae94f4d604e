import java.lang.reflect.Constructor;
import java.lang.reflect.Field;
import java.lang.reflect.Method;
import java.lang.reflect.Modifier;
import java.util.Arrays;
import java.util.Set;
import java.util.TreeSet;

/** The public face is the document's, and nothing else of the class can be reached. */
public final class FaceTest {
    private static final String[] FACE = {
        "public int FrameSwapper.surface(int,int,int) throws java.lang.IllegalArgumentException,java.lang.IllegalStateException",
        "public void FrameSwapper.destroy(int) throws java.lang.IllegalArgumentException",
        "public void FrameSwapper.place(int,int,int,int,int,boolean) throws java.lang.IllegalArgumentException",
        "public void FrameSwapper.clip(int,int,int,int,int) throws java.lang.IllegalArgumentException",
        "public void FrameSwapper.put(int,int,int,int) throws java.lang.IllegalArgumentException,java.lang.IndexOutOfBoundsException",
        "public int FrameSwapper.fill(int,int,int,int,int,int) throws java.lang.IllegalArgumentException",
        "public int FrameSwapper.copy(int,int,int,int,int,int,int,int) throws java.lang.IllegalArgumentException",
        "public int FrameSwapper.commit(int) throws java.lang.IllegalArgumentException,java.lang.IllegalStateException",
        "public int FrameSwapper.draw(int) throws java.lang.IllegalArgumentException",
        "public int FrameSwapper.scan()",
        "public int FrameSwapper.state()",
        "public int FrameSwapper.seen(int,int)",
        "public int FrameSwapper.wanted(int,int)",
        "public int FrameSwapper.count(int)",
        "public int FrameSwapper.missed(int,int)",
        "public int FrameSwapper.plane(int)",
        "public int FrameSwapper.free()",
        "public FrameSwapper()",
        "public static final int FrameSwapper.NONE",
    };

    public static void main(String[] args) {
        Set<String> got = new TreeSet<>();
        for (Method method : FrameSwapper.class.getDeclaredMethods()) {
            if (!Modifier.isPrivate(method.getModifiers())) {
                got.add(method.toString());
            }
        }
        for (Constructor<?> constructor : FrameSwapper.class.getDeclaredConstructors()) {
            if (!Modifier.isPrivate(constructor.getModifiers())) {
                got.add(constructor.toString());
            }
        }
        for (Field field : FrameSwapper.class.getDeclaredFields()) {
            if (!Modifier.isPrivate(field.getModifiers())) {
                got.add(field.toString());
            }
        }
        Set<String> due = new TreeSet<>(Arrays.asList(FACE));
        if (!got.equals(due)) {
            System.out.println("the face is " + got + ", due is " + due);
        }
        Checks.same("the face as written", got.equals(due) ? 1 : 0, 1);
        Checks.same("the class final and public", FrameSwapper.class.getModifiers(), Modifier.FINAL | Modifier.PUBLIC);
        for (Class<?> inside : FrameSwapper.class.getDeclaredClasses()) {
            int modifiers = inside.getModifiers();
            boolean hidden = !Modifier.isPublic(modifiers) && !Modifier.isProtected(modifiers);
            Checks.same(inside + " static and hidden", hidden && Modifier.isStatic(modifiers) ? 1 : 0, 1);
        }
        Checks.same("NONE", FrameSwapper.NONE, -1);
        Checks.end();
    }
}
