import java.lang.reflect.Constructor;
import java.lang.reflect.Field;
import java.lang.reflect.Member;
import java.lang.reflect.Method;
import java.lang.reflect.Modifier;
import java.util.Map;
import java.util.TreeMap;

/** Each line of the section "The public face", and that nothing else can be seen from outside. */
public final class FaceTest {
    private static final Map<String, Boolean> SEEN = new TreeMap<>();
    private static final String ARGUMENT = "java.lang.IllegalArgumentException";
    private static final String STATE = "java.lang.IllegalStateException";
    private static final String INDEX = "java.lang.IndexOutOfBoundsException";

    public static void main(String[] args) {
        seeMembers();
        Sentences.section("The public face");
        Sentences.test(1, "```java public final class TermPile {", FaceTest::publicAndFinal);
        Sentences.test(3, "public static final int NONE = -1;",
                () -> dueMember("public static final int TermPile.NONE"),
                () -> Check.due("NONE", TermPile.NONE, -1));
        Sentences.test(1, "public TermPile();", () -> dueMember("public TermPile()"));
        Sentences.test(2, "public int act(int kind, int n) throws IllegalArgumentException,"
                + " IllegalStateException;",
                () -> dueMember("public int TermPile.act(int,int) throws " + ARGUMENT + "," + STATE));
        Sentences.test(3, "public int line(int k, int i);",
                () -> dueMember("public int TermPile.line(int,int)"));
        Sentences.test(4, "public int term(int k, int i);",
                () -> dueMember("public int TermPile.term(int,int)"));
        Sentences.test(5, "public boolean give(int variable, long v);",
                () -> dueMember("public boolean TermPile.give(int,long)"));
        Sentences.test(6, "public int run(int side) throws IllegalArgumentException;",
                () -> dueMember("public int TermPile.run(int) throws " + ARGUMENT));
        Sentences.test(7, "public long value(int side, int variable) throws"
                + " IndexOutOfBoundsException;",
                () -> dueMember("public long TermPile.value(int,int) throws " + INDEX));
        Sentences.test(8, "public long left(int side, int k) throws IndexOutOfBoundsException;",
                () -> dueMember("public long TermPile.left(int,int) throws " + INDEX));
        Sentences.test(9, "public int count(int what);",
                () -> dueMember("public int TermPile.count(int)"));
        Sentences.test(1, "} ```", FaceTest::nothingElse);
        Sentences.end();
        Check.end("the face is as due");
    }

    private static void seeMembers() {
        for (Field field : TermPile.class.getDeclaredFields()) {
            see(field);
        }
        for (Constructor<?> constructor : TermPile.class.getDeclaredConstructors()) {
            see(constructor);
        }
        for (Method method : TermPile.class.getDeclaredMethods()) {
            see(method);
        }
    }

    private static void see(Member member) {
        if (!Modifier.isPrivate(member.getModifiers())) {
            SEEN.put(member.toString(), false);
        }
    }

    private static void publicAndFinal() {
        int modifiers = TermPile.class.getModifiers();
        Check.due("public", Modifier.isPublic(modifiers), true);
        Check.due("final", Modifier.isFinal(modifiers), true);
    }

    private static void dueMember(String member) {
        Check.due(member + " is there", SEEN.containsKey(member), true);
        SEEN.put(member, true);
    }

    private static void nothingElse() {
        for (Map.Entry<String, Boolean> seen : SEEN.entrySet()) {
            Check.due(seen.getKey() + " is in the document", seen.getValue(), true);
        }
        for (Class<?> inside : TermPile.class.getDeclaredClasses()) {
            boolean hidden = (inside.getModifiers() & (Modifier.PUBLIC | Modifier.PROTECTED)) == 0;
            Check.due(inside + " is not seen from outside", hidden, true);
        }
    }
}
