import java.lang.reflect.Constructor;
import java.lang.reflect.Field;
import java.lang.reflect.Method;
import java.lang.reflect.Modifier;
import java.util.Arrays;
import java.util.List;
import java.util.TreeSet;

/** The class has the document's face and no other member that can be seen. */
public final class FaceTest {
    private static final List<String> FACE = List.of(
        "public long ParityDisks.read(int,int) throws java.lang.IllegalArgumentException,java.lang.UnsupportedOperationException",
        "public void ParityDisks.write(int,int,long) throws java.lang.IllegalArgumentException,java.lang.UnsupportedOperationException",
        "public void ParityDisks.fail(int) throws java.lang.IllegalArgumentException",
        "public void ParityDisks.replace(int) throws java.lang.IllegalArgumentException,java.lang.IllegalStateException",
        "public int ParityDisks.rebuild(int,int) throws java.lang.IllegalArgumentException,java.lang.IllegalStateException",
        "public void ParityDisks.flip(int,int,int,long) throws java.lang.IllegalArgumentException,java.lang.IllegalStateException",
        "public long ParityDisks.block(int,int,int) throws java.lang.IllegalArgumentException,java.lang.IllegalStateException",
        "public int ParityDisks.scrub()",
        "public int ParityDisks.state(int) throws java.lang.IllegalArgumentException",
        "public int ParityDisks.lost()",
        "public ParityDisks()");

    public static void main(String[] args) {
        Class<?> face = ParityDisks.class;
        Due.same("modifiers", "public final", Modifier.toString(face.getModifiers()));
        TreeSet<String> seen = new TreeSet<>();
        TreeSet<String> publicNames = new TreeSet<>();
        for (Method method : face.getDeclaredMethods()) {
            if (!Modifier.isPrivate(method.getModifiers())) {
                seen.add(method.toString());
                publicNames.add(method.getName());
            }
        }
        for (Constructor<?> constructor : face.getDeclaredConstructors()) {
            seen.add(constructor.toString());
        }
        Due.same("the face", new TreeSet<>(FACE).toString(), seen.toString());
        for (Method method : face.getDeclaredMethods()) {
            Due.holds("a private method bears the public name " + method.getName(),
                !Modifier.isPrivate(method.getModifiers()) || !publicNames.contains(method.getName()));
        }
        for (Field field : face.getDeclaredFields()) {
            Due.holds("private and final: " + field.getName(),
                Modifier.isPrivate(field.getModifiers()) && Modifier.isFinal(field.getModifiers()));
        }
        Due.same("interfaces", "[]", Arrays.toString(face.getInterfaces()));
        Due.end();
    }
}
