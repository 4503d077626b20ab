import java.lang.reflect.Constructor;
import java.lang.reflect.Field;
import java.lang.reflect.InvocationTargetException;
import java.lang.reflect.Method;
import java.lang.reflect.Modifier;
import java.util.Arrays;
import java.util.Set;
import java.util.TreeSet;

/** The face is the document's, no more and no less, and no call ever throws. */
public final class FaceTest {
    private static final String[] METHODS = {
        "int kind(int, int, boolean, int, int)", "int piece(int, int, boolean)", "int about(int, int)",
        "int chip(int, boolean)", "int lost(int)", "int again(int)", "int pieces(int, int, int)",
        "int scan(int, int)", "int hand(int)", "int batch(int, int, int)", "int at(int)", "int of(int, int)",
        "int swap(int, int)", "int undo()", "int between(int, int)", "int empties()", "int plan()",
        "int greedy()", "int tunnel(int, int, int)", "int wash()", "int washed(int)", "int run(int, int)",
        "int pack(int, int, int)", "int sheet(int, int, int)", "int lose(int)", "int put(int, int, int, int)",
        "int get(int, int, int)", "int copy(int, int, int, int, int)", "int list(int, int, int)",
        "int count(int)", "long digest()",
    };
    private static final Set<String> CONSTANTS = Set.of("NONE", "BAD", "FULL", "NOT");
    private static final int[] NUMBERS = {
        Integer.MIN_VALUE, -1, 0, 1, 3, 12, 60, Integer.MAX_VALUE,
    };
    // an object is made by 230 calls at most, and is used for at most 512
    private static final int CALLS_OF_AN_OBJECT = 280;
    private static final Due due = new Due("FaceTest");

    public static void main(String[] args) throws Exception {
        classItself();
        methods();
        fields();
        classesInside();
        for (int state = 0; state < 5; state++) {
            callsNeverThrow(state);
        }
        due.end();
    }

    private static void classItself() {
        int modifiers = LinenTunnel.class.getModifiers();
        holds("the class is public and final", Modifier.isPublic(modifiers) && Modifier.isFinal(modifiers));
        Constructor<?>[] made = LinenTunnel.class.getDeclaredConstructors();
        holds("there is one constructor", made.length == 1);
        holds("it is public and takes nothing",
            Modifier.isPublic(made[0].getModifiers()) && made[0].getParameterCount() == 0);
    }

    private static void methods() {
        Set<String> want = new TreeSet<>(Arrays.asList(METHODS));
        Set<String> names = new TreeSet<>();
        for (String method : METHODS) {
            names.add(method.substring(method.indexOf(' ') + 1, method.indexOf('(')));
        }
        for (Method m : LinenTunnel.class.getDeclaredMethods()) {
            if (m.isSynthetic()) {
                continue;
            }
            if (Modifier.isPrivate(m.getModifiers())) {
                holds("a private method is called " + m.getName(), !names.contains(m.getName()));
            } else {
                holds("the document has " + textOf(m), want.remove(textOf(m)));
                holds(m.getName() + " is public, of an object", Modifier.isPublic(m.getModifiers())
                    && !Modifier.isStatic(m.getModifiers()));
            }
        }
        holds("there is no " + want, want.isEmpty());
    }

    private static String textOf(Method m) {
        String told = Arrays.toString(m.getParameterTypes());
        return m.getReturnType() + " " + m.getName() + "(" + told.substring(1, told.length() - 1) + ")";
    }

    private static void fields() {
        int constants = 0;
        for (Field f : LinenTunnel.class.getDeclaredFields()) {
            int modifiers = f.getModifiers();
            if (CONSTANTS.contains(f.getName())) {
                constants++;
                holds(f.getName() + " is a public constant", Modifier.isPublic(modifiers)
                    && Modifier.isStatic(modifiers) && Modifier.isFinal(modifiers) && f.getType() == int.class);
            } else {
                holds(f.getName() + " is private", Modifier.isPrivate(modifiers));
            }
            holds(f.getName() + " is final if it is static", !Modifier.isStatic(modifiers) || Modifier.isFinal(modifiers));
        }
        holds("there are four constants", constants == 4);
    }

    private static void classesInside() {
        Class<?>[] inside = LinenTunnel.class.getDeclaredClasses();
        for (Class<?> c : inside) {
            int modifiers = c.getModifiers();
            holds(c.getName() + " is static", Modifier.isStatic(modifiers));
            holds(c.getName() + " is not public", !Modifier.isPublic(modifiers) && !Modifier.isProtected(modifiers));
        }
    }

    private static void callsNeverThrow(int state) throws Exception {
        for (Method m : LinenTunnel.class.getDeclaredMethods()) {
            if (Modifier.isPublic(m.getModifiers())) {
                callAll(m, state);
            }
        }
    }

    private static void callAll(Method m, int state) throws Exception {
        LinenTunnel x = null;
        Class<?>[] types = m.getParameterTypes();
        int rows = 1;
        for (int k = 0; k < types.length; k++) {
            rows *= NUMBERS.length;
        }
        for (int row = 0; row < rows; row++) {
            if (row % CALLS_OF_AN_OBJECT == 0) {
                x = objectIn(state);
            }
            Object[] told = new Object[types.length];
            int left = row;
            for (int k = 0; k < types.length; k++) {
                int number = NUMBERS[left % NUMBERS.length];
                told[k] = types[k] == boolean.class ? (Object) (number > 0) : (Object) number;
                left /= NUMBERS.length;
            }
            try {
                m.invoke(x, told);
            } catch (InvocationTargetException e) {
                holds(m.getName() + Arrays.toString(told) + " in state " + state + " threw " + e.getCause(), false);
            }
        }
        holds(m.getName() + " never throws in state " + state, true);
    }

    /** 0 new; 1 with linen; 2 with batches; 3 washed; 4 full of all. */
    private static LinenTunnel objectIn(int state) {
        LinenTunnel x = new LinenTunnel();
        int kinds = state == 0 ? 0 : state == 4 ? 8 : 3;
        for (int k = 0; k < kinds; k++) {
            x.kind(k % 4, (10 - k) % 3, k % 2 == 0, k, 9 - k);
        }
        for (int p = 0; p < (kinds == 8 ? 100 : 10); p++) {
            x.hand(x.piece(kinds == 0 ? 0 : p % kinds, p % 6, true));
        }
        for (int s = 0; s < kinds; s++) {
            x.sheet(s % 4, s % 3, 60);
        }
        for (int b = 0; state > 1 && b < 12; b++) {
            x.batch(b % kinds, -1, 2);
        }
        if (state == 3) {
            x.wash();
        }
        return x;
    }

    private static void holds(String what, boolean does) {
        due.is(what, does ? 1 : 0, 1);
    }
}
