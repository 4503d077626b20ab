import java.lang.reflect.Field;
import java.lang.reflect.Modifier;
import java.nio.charset.StandardCharsets;
import java.nio.file.Files;
import java.nio.file.Path;
import java.util.Collections;
import java.util.IdentityHashMap;
import java.util.List;
import java.util.Set;

/** The class keeps to ../shared/LANGUAGE.md; runs from the project's root. Rule 1's face is FaceTest's. */
public final class LanguageTest {
    private static final Path SOURCE = Path.of("src/main/java/LinenTunnel.java");
    private static final int MOST_OBJECTS = 600000 / 512, MOST_ELEMENTS = 7300000 / 512;
    // a rule, and a member of the class that breaks it
    private static final String[][] WRONG = {
        {"1", "int open = 0;"},
        {"1", "public int kind() { return 0; } private int kind(int a) { return a; }"},
        {"1", "public static class Inside { }"},
        {"2", "private class Inside { }"},
        {"2", "private static final class Inside { private static final class Deeper { } }"},
        {"2", "private void f() { class Local { } }"},
        {"2", "private void f() { Runnable r = () -> { }; }"},
        {"2", "private void f() { Runnable r = this::f; }"},
        {"2", "private final StringBuilder b = make(new Comparable<Integer>() { public int compareTo(Integer o) { return 0; } });"
            + " private static StringBuilder make(Comparable<Integer> c) { return new StringBuilder(); }"},
        {"3", "private double d = 0;"},
        {"3", "private final Object o = new int[0];"},
        {"3", "private final int[][][] deep = {};"},
        {"3", "private void f(java.util.Map<Integer, Integer> m) { }"},
        {"4", "private int f(int a) { return Math.addExact(a, 1); }"},
        {"4", "private int f(String a) { return a.hashCode(); }"},
        {"4", "private final Thread t = new Thread();"},
        {"5", "private static int more = 0;"},
        {"5", "static { }"},
        {"6", "private void f() { throw new IllegalArgumentException(); }"},
        {"6", "private void f() { try { f(); } finally { } }"},
        {"6", "private void f() { synchronized (this) { } }"},
        {"6", "private void f() { assert true; }"},
        {"6", "private boolean f(String a, String b) { return a == b; }"},
        {"6", "public String toString() { return \"\"; }"},
        {"6", "private String f(Object o) { return (String) o; }"},
        {"7", "private int f(int[] items, int i) { return items[i]; }"},
        {"7", "private int f(int a, int b) { return a / b; }"},
        {"7", "private int f(int a, int b) { a %= b; return a; }"},
        {"7", "private LinenTunnel f() { return null; }"},
        {"7", "private String later = \"\";"},
        {"7", "private final int[] items; LinenTunnel(int n) { items = new int[n]; }"},
        {"8", "private void f() { g(); } private void g() { f(); }"},
        {"9", "private void f() { while (true) { } }"},
        {"9", "private void f() { do { } while (true); }"},
        {"9", "private void f() { for (;;) { } }"},
        {"9", "private void f() { for (int i = 0; i < 9; i++) { i = 0; } }"},
        {"9", "private void f() { for (int i = 0; i < 9; i--) { } }"},
        {"10", "private String f(String a) { return a + 1; }"},
        {"11", "private void f(int a, int b, int c, int d, int e, int g, int h, int i) { }"},
        {"11", "private int a; private void f() { " + "a++;\n".repeat(60) + "}"},
        {"11", "private int " + "abcdefghijklmnopqrstu".replaceAll("(.)(?=.)", "$1, ") + ";"},
        {"11", "private static class A0 { } private static class A1 { } private static class A2 { } private static class A3 { }"
            + " private static class A4 { } private static class A5 { } private static class A6 { } private static class A7 { }"
            + " private static class A8 { } private static class A9 { } private static class B0 { } private static class B1 { }"},
        {"11", "private void a() { b(); } private void b() { c(); } private void c() { d(); } private void d() { e(); }"
            + " private void e() { f(); } private void f() { g(); } private void g() { h(); } private void h() { i(); } private void i() { }"},
        {"12", "private void f() { LinenTunnel x = new LinenTunnel(); }"},
        {"12", "LinenTunnel(int n) { for (int i = 0; i < n; i++) { StringBuilder b = new StringBuilder(); } }"},
        {"4", "private long f() { return System.nanoTime(); }"},
    };
    private static final Due due = new Due("LanguageTest");

    public static void main(String[] args) throws Exception {
        for (String found : LanguageRules.brokenIn(Files.readString(SOURCE, StandardCharsets.UTF_8))) {
            due.is(found, 1, 0);
        }
        eachRuleIsLookedAt();
        roomForAllCalls();
        due.end();
    }

    /** What breaks a rule is found, so that finding nothing in the class tells something. */
    private static void eachRuleIsLookedAt() throws Exception {
        for (String[] wrong : WRONG) {
            List<String> found = LanguageRules.brokenIn("public final class LinenTunnel { " + wrong[1] + " }");
            boolean isFound = false;
            for (String text : found) {
                isFound |= text.startsWith("rule " + wrong[0] + ",");
            }
            due.is("rule " + wrong[0] + " is broken by " + wrong[1] + ", found is " + found, isFound ? 1 : 0, 1);
        }
        due.is("nothing is found in a plain class", LanguageRules.brokenIn("public final class LinenTunnel { }").size(), 0);
    }

    /** Rule 12: even if each of 512 calls were at an object of its own, all would have room. */
    private static void roomForAllCalls() throws Exception {
        LinenTunnel x = new LinenTunnel();
        long[] made = sizeOf(x);
        due.is(made[0] + " objects are few", made[0] <= MOST_OBJECTS ? 1 : 0, 1);
        due.is(made[1] + " elements are few", made[1] <= MOST_ELEMENTS ? 1 : 0, 1);
        Houses.busy(x);
        Houses.full(x);
        x.plan();
        x.wash();
        due.is("objects are kept by calls", sizeOf(x)[0] - made[0], 0);
        due.is("elements are kept by calls", sizeOf(x)[1] - made[1], 0);
    }

    /** How many objects and arrays it holds, and how many fields and elements they have. */
    private static long[] sizeOf(LinenTunnel x) throws Exception {
        Set<Object> seen = Collections.newSetFromMap(new IdentityHashMap<>());
        collect(x, seen);
        return new long[] {seen.size(), elements(seen)};
    }

    private static void collect(Object o, Set<Object> seen) throws Exception {
        if (o == null || !seen.add(o) || o.getClass().isArray()) {
            return;
        }
        for (Field f : o.getClass().getDeclaredFields()) {
            if (!Modifier.isStatic(f.getModifiers()) && !f.getType().isPrimitive()) {
                f.setAccessible(true);
                collect(f.get(o), seen);
            }
        }
    }

    private static long elements(Set<Object> seen) {
        long elements = 0;
        for (Object o : seen) {
            elements += o instanceof int[] row ? row.length : o.getClass().getDeclaredFields().length;
        }
        return elements;
    }
}
