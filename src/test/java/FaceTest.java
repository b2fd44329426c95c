import java.lang.reflect.Constructor;
import java.lang.reflect.Field;
import java.lang.reflect.Member;
import java.lang.reflect.Method;
import java.lang.reflect.Modifier;
import java.util.NoSuchElementException;
import java.util.Set;
import java.util.TreeSet;

/** The class has the document's face, and nothing beside it that others see. */
public final class FaceTest {
    private static final String[] FACE = {
        "public static final int NONE",
        "public TravelToken()",
        "public int feed(int,int,int,int,int)",
        "public boolean end(int)",
        "public int text()",
        "public int fault()",
        "public int now(int)",
        "public int member(int,int) throws java.util.NoSuchElementException",
        "public int pass(int,int)",
        "public int way(int,int)",
        "public int message(int,int,int,int)",
        "public int would(int,int)",
        "public int soon(int)",
        "public int order(int)",
        "public int ask(int)",
        "public int leave(int)",
        "public int suspect(int)",
        "public int send(int,int)",
        "public int lose(int,int)",
        "public int settle(int)",
        "public int undo()",
    };

    public static void main(String[] args) {
        Set<String> due = new TreeSet<>(Set.of(FACE));
        Set<String> got = new TreeSet<>();
        for (Field f : TravelToken.class.getDeclaredFields()) {
            add(got, f, f.toGenericString());
        }
        for (Constructor<?> c : TravelToken.class.getDeclaredConstructors()) {
            add(got, c, c.toGenericString());
        }
        for (Method m : TravelToken.class.getDeclaredMethods()) {
            add(got, m, m.toGenericString());
        }
        if (!due.equals(got)) {
            System.out.println("due is " + due + "\ngot    " + got);
        }
        Check.due("the face is as due", due.equals(got), true);
        int modifiers = TravelToken.class.getModifiers();
        Check.due("final", Modifier.isFinal(modifiers), true);
        Check.due("public", Modifier.isPublic(modifiers), true);
        Check.due("NONE", TravelToken.NONE, -1);
        thrownExceptionIsTheDocuments();
        Check.close();
    }

    private static void add(Set<String> got, Member member, String told) {
        if (!Modifier.isPrivate(member.getModifiers()) && !member.isSynthetic()) {
            got.add(told.replace("TravelToken.", ""));
        }
    }

    private static void thrownExceptionIsTheDocuments() {
        Class<?> thrown = null;
        try {
            new TravelToken().member(2, 0);
        } catch (NoSuchElementException e) {
            thrown = e.getClass();
        }
        Check.due("exactly NoSuchElementException", thrown == NoSuchElementException.class, true);
    }
}
