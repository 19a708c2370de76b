import java.lang.reflect.Constructor;
import java.lang.reflect.Field;
import java.lang.reflect.Method;
import java.lang.reflect.Modifier;
import java.util.Set;
import java.util.TreeSet;

/** The class has the document's face and no other member that can be seen. */
public final class FaceTest {
    private static final String[] FACE = {
        "public FixityTrees()",
        "public boolean FixityTrees.same(int) throws java.lang.IndexOutOfBoundsException,java.lang.IllegalStateException",
        "public int FixityTrees.clash(int) throws java.lang.IllegalArgumentException",
        "public int FixityTrees.close() throws java.lang.IllegalStateException",
        "public int FixityTrees.looked(int,int,int) throws java.lang.IndexOutOfBoundsException,java.lang.IllegalArgumentException",
        "public int FixityTrees.node(int,int) throws java.lang.IndexOutOfBoundsException,java.lang.IllegalArgumentException",
        "public int FixityTrees.open() throws java.lang.IllegalStateException",
        "public int FixityTrees.operand(long) throws java.lang.IllegalStateException",
        "public int FixityTrees.operator(int) throws java.lang.IndexOutOfBoundsException,java.lang.IllegalStateException",
        "public int FixityTrees.resolve(int) throws java.lang.IndexOutOfBoundsException,java.lang.IllegalStateException",
        "public int FixityTrees.scope(int) throws java.lang.IndexOutOfBoundsException,java.lang.IllegalStateException",
        "public int FixityTrees.take() throws java.lang.IllegalStateException",
        "public int FixityTrees.told(int) throws java.lang.IllegalArgumentException",
        "public int FixityTrees.write(int) throws java.lang.IndexOutOfBoundsException,java.lang.IllegalStateException",
        "public int FixityTrees.written(int,int) throws java.lang.IndexOutOfBoundsException,java.lang.IllegalArgumentException",
        "public long FixityTrees.number(int) throws java.lang.IndexOutOfBoundsException",
        "public static final int FixityTrees.NONE",
        "public void FixityTrees.begin(boolean)",
        "public void FixityTrees.fixity(int,int,int,int) throws java.lang.IndexOutOfBoundsException,java.lang.IllegalStateException,java.lang.IllegalArgumentException",
    };

    public static void main(String[] args) {
        Due.about("The public face", "public final class FixityTrees");
        Class<?> face = FixityTrees.class;
        Set<String> seen = new TreeSet<>();
        for (Constructor<?> c : face.getDeclaredConstructors()) {
            addIfSeen(seen, c.getModifiers(), c.isSynthetic(), c.toString());
        }
        for (Method m : face.getDeclaredMethods()) {
            addIfSeen(seen, m.getModifiers(), m.isSynthetic(), m.toString());
        }
        for (Field f : face.getDeclaredFields()) {
            addIfSeen(seen, f.getModifiers(), f.isSynthetic(), f.toString());
        }
        Due.text("the face", String.join("\n", seen), String.join("\n", new TreeSet<>(Set.of(FACE))));
        Due.is("public and final", () -> face.getModifiers(), Modifier.PUBLIC | Modifier.FINAL);
        Due.about("The public face", "public static final int NONE = -1;");
        Due.is("NONE", () -> FixityTrees.NONE, -1);
        Due.about("LANGUAGE.md, rule 1", "the classes inside it, which are private or package-visible and static");
        for (Class<?> inner : face.getDeclaredClasses()) {
            Due.is(inner + " is static", () -> Modifier.isStatic(inner.getModifiers()) ? 1 : 0, 1);
            Due.is(inner + " is hidden", () -> isHidden(inner.getModifiers()) ? 1 : 0, 1);
        }
        Due.end();
    }

    private static boolean isHidden(int modifiers) {
        return !Modifier.isPublic(modifiers) && !Modifier.isProtected(modifiers);
    }

    private static void addIfSeen(Set<String> seen, int modifiers, boolean synthetic, String text) {
        if (!Modifier.isPrivate(modifiers) && !synthetic) {
            seen.add(text);
        }
    }
}
