import java.lang.reflect.Constructor;
import java.lang.reflect.Field;
import java.lang.reflect.Method;
import java.lang.reflect.Modifier;
import java.util.Set;
import java.util.TreeSet;

/** The public face: all that the document names, and nothing else. */
public final class FaceTest {
    private static final Set<String> FACE = Set.of(
            "public static final int MergingFragments.NONE",
            "public MergingFragments()",
            "public void MergingFragments.begin(int) throws java.lang.IllegalArgumentException",
            "public int MergingFragments.edge(int,int,int) throws java.lang.IndexOutOfBoundsException,"
                    + "java.lang.IllegalArgumentException,java.lang.IllegalStateException",
            "public boolean MergingFragments.wake(int) throws java.lang.IndexOutOfBoundsException",
            "public int MergingFragments.handle(int) throws java.lang.IndexOutOfBoundsException",
            "public int MergingFragments.run(int,int) throws java.lang.IndexOutOfBoundsException,"
                    + "java.lang.IllegalArgumentException",
            "public int MergingFragments.about(int,int) throws java.lang.IndexOutOfBoundsException,"
                    + "java.lang.IllegalArgumentException",
            "public int MergingFragments.mark(int,int) throws java.lang.IndexOutOfBoundsException",
            "public int MergingFragments.message(int,int,int) throws java.lang.IndexOutOfBoundsException,"
                    + "java.lang.IllegalArgumentException",
            "public int MergingFragments.sent()",
            "public int MergingFragments.left()",
            "public int MergingFragments.weight()");

    public static void main(String[] args) {
        Expect expect = new Expect();
        Set<String> seen = new TreeSet<>();
        Set<String> publicNames = new TreeSet<>();
        Set<String> privateNames = new TreeSet<>();
        for (Field field : MergingFragments.class.getDeclaredFields()) {
            if (!Modifier.isPrivate(field.getModifiers())) {
                seen.add(field.toString());
            }
        }
        for (Constructor<?> constructor : MergingFragments.class.getDeclaredConstructors()) {
            if (!Modifier.isPrivate(constructor.getModifiers())) {
                seen.add(constructor.toString());
            }
        }
        for (Method method : MergingFragments.class.getDeclaredMethods()) {
            boolean hidden = Modifier.isPrivate(method.getModifiers());
            (hidden ? privateNames : publicNames).add(method.getName());
            if (!hidden) {
                seen.add(method.toString());
            }
        }
        expect.equal("the face", new TreeSet<>(FACE), () -> seen);
        privateNames.retainAll(publicNames);
        expect.equal("private methods that bear a public name", Set.of(), () -> privateNames);
        expect.holds("the class is public and final",
                MergingFragments.class.getModifiers() == (Modifier.PUBLIC | Modifier.FINAL));
        for (Class<?> inside : MergingFragments.class.getDeclaredClasses()) {
            int modifiers = inside.getModifiers();
            expect.holds(inside.getName() + " is private and static",
                    Modifier.isPrivate(modifiers) && Modifier.isStatic(modifiers));
        }
        expect.finish();
    }
}
