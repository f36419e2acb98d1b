import java.lang.reflect.Constructor;
import java.lang.reflect.Field;
import java.lang.reflect.Method;
import java.lang.reflect.Modifier;
import java.util.Arrays;
import java.util.Set;
import java.util.TreeSet;

/** The face is the document's: nothing is wanting, nothing else can be seen from outside. */
public final class FaceTest {
    private static final String[] DUE = {
        "public static final int TermPile.NONE",
        "public TermPile()",
        "public int TermPile.act(int,int) throws "
                + "java.lang.IllegalArgumentException,java.lang.IllegalStateException",
        "public int TermPile.line(int,int)",
        "public int TermPile.term(int,int)",
        "public boolean TermPile.give(int,long)",
        "public int TermPile.run(int) throws java.lang.IllegalArgumentException",
        "public long TermPile.value(int,int) throws java.lang.IndexOutOfBoundsException",
        "public long TermPile.left(int,int) throws java.lang.IndexOutOfBoundsException",
        "public int TermPile.count(int)",
    };

    public static void main(String[] args) {
        Set<String> seen = new TreeSet<>();
        boolean right = Modifier.isFinal(TermPile.class.getModifiers())
                && Modifier.isPublic(TermPile.class.getModifiers());
        for (Field field : TermPile.class.getDeclaredFields()) {
            note(seen, field.getModifiers(), field.toString());
            right &= !Modifier.isStatic(field.getModifiers()) || Modifier.isFinal(field.getModifiers());
        }
        for (Constructor<?> constructor : TermPile.class.getDeclaredConstructors()) {
            note(seen, constructor.getModifiers(), constructor.toString());
        }
        for (Method method : TermPile.class.getDeclaredMethods()) {
            note(seen, method.getModifiers(), method.toString());
        }
        Set<String> due = new TreeSet<>(Arrays.asList(DUE));
        right &= seen.equals(due);
        System.out.println(right ? "the face is as due" : "the face is " + seen + ", due is " + due);
        if (!right) {
            System.exit(1);
        }
    }

    private static void note(Set<String> seen, int modifiers, String member) {
        if (!Modifier.isPrivate(modifiers)) {
            seen.add(member);
        }
    }
}
