import java.lang.reflect.Constructor;
import java.lang.reflect.Field;
import java.lang.reflect.Method;
import java.lang.reflect.Modifier;
import java.util.Set;
import java.util.TreeSet;

/** The public face: all that the document lists, and no other member that isn't private. */
public final class FaceTest {
    private static final String ARGUMENT = " throws java.lang.IllegalArgumentException";
    private static final String INDEX = " throws java.lang.IndexOutOfBoundsException";

    public static void main(String[] args) {
        Class<?> face = UnitFinder.class;
        Check.due("public and final", Modifier.toString(face.getModifiers()), "public final");
        Set<String> found = new TreeSet<>();
        Set<String> hidden = new TreeSet<>();
        for (Method m : face.getDeclaredMethods()) {
            (Modifier.isPrivate(m.getModifiers()) ? hidden : found).add(
                    Modifier.isPrivate(m.getModifiers()) ? m.getName() : m.toGenericString());
        }
        for (Constructor<?> c : face.getDeclaredConstructors()) {
            found.add(c.toGenericString());
        }
        for (Field f : face.getDeclaredFields()) {
            Check.due("private: " + f.getName(), Modifier.isPrivate(f.getModifiers()), true);
            Check.due("final if static: " + f.getName(),
                    !Modifier.isStatic(f.getModifiers()) || Modifier.isFinal(f.getModifiers()), true);
        }
        Set<String> due = new TreeSet<>(Set.of(
                "public UnitFinder()",
                "public int UnitFinder.take(int)" + ARGUMENT,
                "public int UnitFinder.count(int)",
                "public void UnitFinder.ask(int,int,int)" + ARGUMENT,
                "public int UnitFinder.power(int,int,int)" + ARGUMENT,
                "public int UnitFinder.sign(int)" + INDEX,
                "public int UnitFinder.bits(int)" + INDEX,
                "public int UnitFinder.word(int,int)" + INDEX,
                "public int UnitFinder.residue(int,int)" + INDEX + ",java.lang.IllegalArgumentException"));
        Check.due("the face", found, due);
        hidden.retainAll(Set.of("take", "count", "ask", "power", "sign", "bits", "word", "residue"));
        Check.due("private methods with a public one's name", hidden, new TreeSet<String>());
        Check.end();
    }
}
