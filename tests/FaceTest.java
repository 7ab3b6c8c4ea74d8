import java.lang.reflect.Constructor;
import java.lang.reflect.Field;
import java.lang.reflect.Method;
import java.lang.reflect.Modifier;
import java.util.ArrayList;
import java.util.Arrays;
import java.util.Collections;
import java.util.List;

/** The public face is that of the document, and nothing else can be seen from outside. */
final class FaceTest {
    private static final String[] DUE = {
        "back()", "behind(int,int,int)", "boot(int)", "cell(int,int)", "count(int)", "dry(int)", "fault()",
        "forget()", "join(int,int)", "keep()", "kerb(int,int,int)", "lay()", "part(int,int)", "rain(int)",
        "rains()", "ring(int,int)", "shine(int)", "sky(int,int)", "stone(int,boolean)", "sun(int,int,int,int)",
        "undo()", "way(int,int)", "wipe()", "write(int)", "year(int,int,int)"
    };

    public static void main(String[] args) {
        List<String> seen = new ArrayList<>();
        List<String> hidden = new ArrayList<>();
        for (Method m : PuddleStates.class.getDeclaredMethods()) {
            if (Modifier.isPrivate(m.getModifiers())) {
                hidden.add(m.getName());
            } else if (!m.isSynthetic()) {
                seen.add(signature(m));
                Due.is(m + " is public, not static, answers int", plainCall(m) ? 1 : 0, 1);
            }
        }
        Collections.sort(seen);
        Due.is("the methods are those of the document", seen.equals(Arrays.asList(DUE)) ? 1 : 0, 1);
        for (String name : DUE) {
            Due.is("a private method like " + name, hidden.contains(name.substring(0, name.indexOf('('))) ? 1 : 0, 0);
        }
        int modifiers = PuddleStates.class.getModifiers();
        Due.is("public and final", Modifier.isPublic(modifiers) && Modifier.isFinal(modifiers) ? 1 : 0, 1);
        constructors();
        constants();
        Due.end("FaceTest");
    }

    private static boolean plainCall(Method m) {
        int modifiers = m.getModifiers();
        return Modifier.isPublic(modifiers) && !Modifier.isStatic(modifiers) && m.getReturnType() == int.class;
    }

    private static String signature(Method m) {
        StringBuilder text = new StringBuilder(m.getName()).append('(');
        for (Class<?> type : m.getParameterTypes()) {
            text.append(text.charAt(text.length() - 1) == '(' ? "" : ",").append(type.getName());
        }
        return text.append(')').toString();
    }

    private static void constructors() {
        int open = 0;
        for (Constructor<?> c : PuddleStates.class.getDeclaredConstructors()) {
            if (!Modifier.isPrivate(c.getModifiers())) {
                open++;
                Due.is("the constructor takes", c.getParameterCount(), 0);
            }
        }
        Due.is("constructors", open, 1);
    }

    private static void constants() {
        int open = 0;
        for (Field f : PuddleStates.class.getDeclaredFields()) {
            if (!Modifier.isPrivate(f.getModifiers())) {
                open++;
            }
            if (Modifier.isStatic(f.getModifiers())) {
                Due.is(f + " is final", Modifier.isFinal(f.getModifiers()) ? 1 : 0, 1);
            }
        }
        Due.is("constants", open, 4);
        Due.is("BAD", PuddleStates.BAD, -1);
        Due.is("NO", PuddleStates.NO, -2);
        Due.is("FULL", PuddleStates.FULL, -3);
        Due.is("NONE", PuddleStates.NONE, -4);
    }
}
