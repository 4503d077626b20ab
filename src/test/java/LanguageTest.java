import com.sun.management.ThreadMXBean;
import java.lang.management.ManagementFactory;
import java.nio.charset.StandardCharsets;
import java.nio.file.Files;
import java.nio.file.Path;
import java.util.List;
import java.util.function.ToLongFunction;

/** The class keeps to ../shared/LANGUAGE.md; runs from the project's root. Rule 1's face is FaceTest's. */
public final class LanguageTest {
    private static final Path SOURCE = Path.of("src/main/java/LinenTunnel.java");
    private static final int CALLS = 512, OBJECTS = 64, MEASURED = 256, CALLS_OF_AN_OBJECT = 64;
    // the room of a run: an object's head takes 16 bytes at most, an element mostly 4
    private static final long ROOM = 600000L * 16 + 7300000L * 4;
    // a rule, and a member of the class that breaks it
    private static final String[][] WRONG = {
        {"1", "int open = 0;"},
        {"1", "protected static final int OPEN = 0;"},
        {"1", "void open() { }"},
        {"1", "LinenTunnel(int a) { }"},
        {"1", "public int kind() { return 0; } private int kind(int a) { return a; }"},
        {"1", "public int kind() { return 0; } private static final class Inside { private int kind() { return 0; } }"},
        {"1", "public static class Inside { }"},
        {"1", "protected interface Inside { }"},
        {"2", "private class Inside { }"},
        {"2", "private static class Inside { private class Deeper { } }"},
        {"2", "private void f() { class Local { } }"},
        {"2", "private void f() { record Local(int a) { } }"},
        {"2", "private void f() { Runnable r = () -> { }; }"},
        {"2", "private void f() { Runnable r = this::f; }"},
        {"2", "private interface Part { int size(); } private Part f() { return new Part() { public int size() { return 0; } }; }"},
        {"2", "private enum Form { BYTES { int size() { return 1; } }; int size() { return 0; } }"},
        {"2", "private enum Form { BYTES; private final int[] sizes = {1}; }"},
        {"2", "private @interface Told { }"},
        {"3", "private final Object o = new int[0];"},
        {"3", "private final int[][][] deep = {};"},
        {"3", "private final boolean[][] flags = {};"},
        {"3", "private final String[] texts = {};"},
        {"3", "private final java.util.List<String> texts = new java.util.ArrayList<>();"},
        {"3", "private final Long much = 1L;"},
        {"3", "private void f(java.util.Map<Integer, Integer> m) { }"},
        {"3", "private Object f() { return this; }"},
        {"3", "private double f(double a, double b) { return a % b; }"},
        {"4", "private int f(int a) { return Math.addExact(a, 1); }"},
        {"4", "private double f(double a) { return Math.sqrt(a); }"},
        {"4", "private int f(String a) { return a.hashCode(); }"},
        {"4", "private int f(String a) { return a.compareTo(a); }"},
        {"4", "private int f(String a) { return Integer.parseInt(a); }"},
        {"4", "private void f(java.util.List<Integer> a) { a.remove(a.get(0)); }"},
        {"4", "private void f(int[] a) { java.util.Arrays.sort(a); }"},
        {"4", "private void f(StringBuilder b, long a) { b.append(a); }"},
        {"4", "private final Thread t = new Thread();"},
        {"4", "private static final class Part implements Runnable { public void run() { } }"},
        {"4", "private static final String FAR = \"caf\u00e9\";"},
        {"5", "private static int more = 0;"},
        {"5", "private static final int MORE = Math.max(1, 2);"},
        {"5", "private static final int[] ROW = new int[3];"},
        {"5", "private static final int[] ROW = {1, 2}; private void f() { ROW[0] = 2; }"},
        {"5", "private static final int[] ROW = {1, 2}; private void f() { ROW[0] += 2; }"},
        {"5", "private static final StringBuilder B = new StringBuilder();"},
        {"5", "private static final class Part { private static long made = 0; }"},
        {"5", "static { }"},
        {"6", "private void f() { throw new IllegalArgumentException(); }"},
        {"6", "private void f() { try { f(); } finally { } }"},
        {"6", "private void f() { synchronized (this) { } }"},
        {"6", "private synchronized void f() { }"},
        {"6", "private void f() throws Exception { }"},
        {"6", "private void f() { assert true; }"},
        {"6", "private boolean f(String a, String b) { return a == b; }"},
        {"6", "private boolean f(java.util.List<Integer> a) { return a.get(0) != a.get(1); }"},
        {"6", "public String toString() { return \"\"; }"},
        {"6", "private static final class Part { public int hashCode() { return 1; } }"},
        {"6", "private record Part(int a) { } private boolean f(Part a, Part b) { return a.equals(b); }"},
        {"6", "private String f(Object o) { return (String) o; }"},
        {"6", "private static class Part { } private static class Disc extends Part { } private Disc f(Part p) { return (Disc) p; }"},
        {"7", "private final int[] items = {1}; public int f(int i) { return items[i]; }"},
        {"7", "public int f(int a, int b) { return a / b; }"},
        {"7", "public int f(int a, int b) { a %= b; return a; }"},
        {"7", "private int f(int a) { return a % 0; }"},
        {"8", "private void f() { g(); } private void g() { f(); }"},
        {"8", "public int f(int a) { return a > 0 ? f(a - 1) : 0; }"},
        {"8", "private interface Part { int size(); } private static final class Whole implements Part {"
            + " private final Part part = this; public int size() { return part.size(); } }"},
        {"9", "private void f() { while (true) { } }"},
        {"9", "private void f() { do { } while (true); }"},
        {"9", "private void f() { for (;;) { } }"},
        {"9", "private void f() { for (;;) { for (;;) { break; } } }"},
        {"9", "private void f(int a) { while (a > 0) { int b = a - 1; } }"},
        {"9", "private void f() { for (int i = 0; i < 9; i++) { i = 0; } }"},
        {"9", "private void f() { for (int i = 0; i < 9; i--) { } }"},
        {"9", "private void f() { for (int i = 9; i >= 0; i++) { } }"},
        {"10", "private String f(String a) { return a + 1; }"},
        {"10", "private String f(String a) { a += 1; return a; }"},
        {"11", "private void f(int a, int b, int c, int d, int e, int g, int h, int i) { }"},
        {"11", "private int a; private void f() { " + "a++;\n".repeat(80) + "}"},
        {"11", "private int " + "abcdefghijklmnopqrstuvwxyz".replaceAll("(.)(?=.)", "$1, ") + ";"},
        {"11", "private static class A0 { } private static class A1 { } private static class A2 { } private static class A3 { }"
            + " private static class A4 { } private static class A5 { } private static class A6 { } private static class A7 { }"
            + " private static class A8 { } private static class A9 { } private static class B0 { } private static class B1 { }"
            + " private static class B2 { } private static class B3 { }"},
        {"11", "private void a() { b(); } private void b() { c(); } private void c() { d(); } private void d() { e(); }"
            + " private void e() { f(); } private void f() { g(); } private void g() { h(); } private void h() { i(); }"
            + " private void i() { j(); } private void j() { }"},
        {"12", "private static class Part { private final Part part; Part() { part = f(); } Part f() { return null; } }"},
        {"12", "private static class Part { Part(Whole w) { w.take(this); } } private static class Whole { void take(Part p) { } }"},
        {"13", "private long f() { return System.nanoTime(); }"},
        {"13", "private double f() { return Math.random(); }"},
        {"13", "private final java.util.Random random = new java.util.Random();"},
        {"13", "private String f() { return System.getenv(\"HOME\"); }"},
    };
    // what the rules leave, by rules
    private static final String[][] RIGHT = {
        {"1", "public int kind() { return 0; } private static final class Inside { int kind() { return 0; } }"},
        {"1", "private int a; private static int f() { return 0; } static class Inside { int b; } enum Form { BYTES }"},
        {"2", "private record Part(int a, int b) { int sum() { return a + b; } } private Part f() { return new Part(1, 2); }"},
        {"2", "private enum Form { BYTES(1), INTS(4); private final int size; Form(int s) { size = s; } int size() { return size; } }"},
        {"2", "private interface Part { int size(); } private static abstract class Half implements Part { }"
            + " private static final class Whole extends Half { public int size() { return 1; } }"},
        {"3", "private double d = 0; private short s; private byte[] row = {1}; private long[][] table = {{1}}; private boolean[] flags;"},
        {"3", "private static final class Box<T> { private T kept; T kept() { return kept; } } private final Box<Integer> box = new Box<>();"},
        {"3", "private static final class Part { } private final Part[] parts = new Part[3];"},
        {"4", "private int f(String a) { return a.length() + a.charAt(0) + a.indexOf('x') + a.substring(1).toCharArray().length; }"},
        {"4", "private String f(char[] a) { StringBuilder b = new StringBuilder(); b.append(1).append('c').append(\"t\").setLength(2);"
            + " b.reverse(); b.deleteCharAt(0); return new String(a).equals(b.toString()) ? b.toString() : \"\"; }"},
        {"4", "private int f() { java.util.ArrayList<Integer> a = new java.util.ArrayList<>(); a.add(1); a.add(0, 2); a.set(0, 3);"
            + " a.remove(0); int sum = 0; for (int n : a) { sum += n; } a.clear(); return a.isEmpty() ? sum : a.size(); }"},
        {"4", "private long f(int a, long b) { return Integer.compare(a, 1) + Long.max(b, 2) + Math.floorMod(a, 3) + Integer.bitCount(a); }"},
        {"4", "private int[] f(int[] a) { int[] b = java.util.Arrays.copyOf(a, 3); java.util.Arrays.fill(b, 1);"
            + " System.arraycopy(a, 0, b, 0, 1); return b.clone(); }"},
        {"4", "private static final class Row implements Iterable<Integer>, java.util.Iterator<Integer>, Comparable<Row> {"
            + " public java.util.Iterator<Integer> iterator() { return this; } public boolean hasNext() { return false; }"
            + " public Integer next() { return 1; } public int compareTo(Row other) { return 0; } }"},
        {"5", "private static final int A = 1, B = A * 2; private static final int[] ROW = {1, 2}; private static final String T = \"t\";"},
        {"6", "private static class Part { } private static class Disc extends Part { int r; } private int f(Part p) {"
            + " if (p instanceof Disc) { return ((Disc) p).r; } return p instanceof Disc d ? d.r : p == null ? 0 : 1; }"},
        {"6", "private enum Form { BYTES, INTS } private int f(Form a) { switch (a) { case BYTES: return 1; default: return a == Form.INTS ? 2 : 3; } }"},
        {"7", "private final int[] items = {1}; public int f(int i) { return i >= 0 && i < items.length ? items[i] : 0; }"},
        {"7", "private final int[] items = {1}; public int f(int i) { return has(i) ? items[i] : 0; } private boolean has(int i) { return i == 0; }"},
        {"7", "public int f(int a, int b) { if (b == 0) { return 0; } return a / b; } private int g(int a) { return a % 3; }"},
        {"8", "private static int f(int a) { if (a <= 0) { return 0; } return f(a - 1) + 1; }"},
        {"9", "private int f(int a) { while (true) { a--; if (a < 3) { break; } } return a; }"},
        {"9", "private int left; private void f() { while (left > 0) { g(); } } private void g() { left--; }"},
        {"9", "private static class Part { Part next; } private void f(Part p) { for (Part q = p; q != null; q = q.next) { } }"},
        {"9", "private void f() { outer: for (int i = 9; i > 0; i--) { for (int j = 0; 9 > j; j++) { if (j == i) { continue outer; } } } }"},
        {"9", "private void f(int a) { int i = 0; do { i++; } while (i < 9 && a > i); for (i = 0; i < 9; i += 2) { } }"},
        {"12", "private int[] f(int n) { for (int i = 0; i < 3; i++) { int[] a = new int[3]; } return n > 0 && n < 9 ? new int[n] : new int[0]; }"},
        {"12", "private static final class Part { private int a; Part() { this.a = 1; f(); } void f() { a++; } }"},
        {"12", "private enum Form { BYTES; private static final Form[] ALL = values(); }"},
    };
    private static final Due due = new Due("LanguageTest");

    public static void main(String[] args) throws Exception {
        for (String found : LanguageRules.brokenIn(Files.readString(SOURCE, StandardCharsets.UTF_8))) {
            due.is(found, 1, 0);
        }
        brokenRulesAreFound();
        whatIsLeftIsNotFound();
        roomForAllCalls();
        due.end();
    }

    /** What breaks a rule is found, so that finding nothing in the class tells something. */
    private static void brokenRulesAreFound() throws Exception {
        for (String[] wrong : WRONG) {
            // no clock and no randomness: the library that has them isn't left by rule 4
            String rule = wrong[0].equals("13") ? "4" : wrong[0];
            List<String> found = foundIn(wrong[1]);
            boolean isFound = found.stream().anyMatch(text -> text.startsWith("rule " + rule + ","));
            due.is("rule " + wrong[0] + " is broken by " + wrong[1] + ", found is " + found, isFound ? 1 : 0, 1);
        }
        due.is("rule 1 is broken by a package line", LanguageRules.brokenIn("package p; public final class LinenTunnel { }").size(), 1);
        due.is("rule 1 is broken by a second class", LanguageRules.brokenIn("public final class LinenTunnel { } class Other { }").isEmpty() ? 0 : 1, 1);
        due.is("rule 1 is broken by a class that isn't final", LanguageRules.brokenIn("public class LinenTunnel { }").size(), 1);
    }

    private static void whatIsLeftIsNotFound() throws Exception {
        for (String[] right : RIGHT) {
            due.is("rule " + right[0] + " leaves " + right[1] + ", found is " + foundIn(right[1]), foundIn(right[1]).size(), 0);
        }
        due.is("nothing is found in a plain class", foundIn("").size(), 0);
    }

    private static List<String> foundIn(String member) throws Exception {
        return LanguageRules.brokenIn("public final class LinenTunnel { " + member + " }");
    }

    /** Rule 12: 512 calls like the dearest one have room, and so have some objects. */
    private static void roomForAllCalls() {
        hasRoom(OBJECTS, "a new object", x -> new LinenTunnel().count(0));
        hasRoom("piece", x -> x.piece(7, 5, true));
        hasRoom("pieces", x -> x.pieces(-1, -1, 0));
        hasRoom("scan", x -> x.scan(0, 60));
        hasRoom("batch, undo", x -> x.batch(0, -1, 20) + x.undo());
        hasRoom("of", x -> x.of(0, 10));
        hasRoom("swap", x -> x.swap(0, 7));
        hasRoom("empties", x -> x.empties());
        hasRoom("plan", x -> x.plan());
        hasRoom("greedy", x -> x.greedy());
        hasRoom("batch, wash, again", x -> x.batch(0, -1, 20) + x.wash() + x.again(0));
        hasRoom("run", x -> x.run(0, 0));
        hasRoom("pack", x -> x.pack(0, 0, 40));
        hasRoom("sheet, lose", x -> x.sheet(1, 2, 60) + x.lose(1));
        hasRoom("copy", x -> x.copy(0, 0, 0, 1, 59));
        hasRoom("list", x -> x.list(0, -1, 0));
        hasRoom("digest", x -> x.digest());
    }

    private static void hasRoom(String call, ToLongFunction<LinenTunnel> made) {
        hasRoom(CALLS, call, made);
    }

    private static void hasRoom(int calls, String call, ToLongFunction<LinenTunnel> made) {
        ThreadMXBean threads = (ThreadMXBean) ManagementFactory.getThreadMXBean();
        long me = Thread.currentThread().getId();
        long bytes = 0;
        // eight wait, so plan() does its most; a few calls an object keep it under its 512th
        for (int measured = 0; measured < MEASURED; measured += CALLS_OF_AN_OBJECT) {
            LinenTunnel x = Houses.after(Houses::full);
            for (int batch = 12; batch > 8; batch--) {
                x.undo();
            }
            x.sheet(0, 2, 60);
            long before = threads.getThreadAllocatedBytes(me);
            for (int k = 0; k < CALLS_OF_AN_OBJECT; k++) {
                made.applyAsLong(x);
            }
            bytes += threads.getThreadAllocatedBytes(me) - before;
        }
        long ofAll = bytes / MEASURED * calls;
        due.is(calls + " of " + call + " make " + ofAll + " bytes, there is room", ofAll <= ROOM ? 1 : 0, 1);
    }
}
