import java.io.IOException;
import java.nio.file.Files;
import java.nio.file.Path;
import java.util.List;

/** ../shared/LANGUAGE.md: the source keeps to it, and sources that don't are noticed. */
public final class SourceTest {
    private static final Checks c = new Checks();

    public static void main(String[] args) throws IOException {
        List<String> faults = SourceRules.faultsOf(Files.readString(Path.of("src/main/java/TentFields.java")));
        faults.forEach(fault -> System.out.println("TentFields.java: " + fault));
        c.due("faults of TentFields.java", faults.size(), 0);
        faultsAreNoticed();
        whatIsAllowedIsNot();
        c.end("SourceTest");
    }

    private static String around(String members) {
        return "public final class TentFields { public int count(int what) { return what; } " + members + " }";
    }

    private static void isNoticed(String rule, String members) throws IOException {
        List<String> faults = SourceRules.faultsOf(around(members));
        c.holds("rule " + rule + " is noticed in: " + members + " " + faults,
                !faults.isEmpty() && faults.get(0).contains("rule " + rule));
    }

    private static void isAllowed(String members) throws IOException {
        List<String> faults = SourceRules.faultsOf(around(members));
        c.holds("allowed: " + members + " " + faults, faults.isEmpty());
    }

    private static void faultsAreNoticed() throws IOException {
        isNoticed("1", "private int count() { return 1; }");
        isNoticed("2", "private interface F { int of(int x); } private int a() { F f = x -> x; return f.of(1); }");
        isNoticed("2", "private interface F { int of(int x); } private int a() { F f = Math::abs; return f.of(1); }");
        isNoticed("2", "private int a() { class B { } return new B() == null ? 1 : 0; }");
        isNoticed("3", "private java.util.HashMap<Integer, Integer> a;");
        isNoticed("3", "private int[][][] a;");
        isNoticed("3", "private String[][] a;");
        isNoticed("4", "private int a() { return Math.addExact(1, 2); }");
        isNoticed("4", "private int a() { return Float.floatToIntBits(1.0f); }");
        isNoticed("4", "private long a() { return System.nanoTime(); }");
        isNoticed("4", "private double a() { return Math.abs(1.0); }");
        isNoticed("4", "private int a(String s) { return s.hashCode(); }");
        isNoticed("4", "private String a() { return \"\\u00e9\"; }");
        isNoticed("4", "private int a() { return new java.util.Random().hashCode(); }");
        isNoticed("5", "private static int a = 1;");
        isNoticed("5", "static { }");
        isNoticed("6", "private void a() { throw new Error(); }");
        isNoticed("6", "private void a() { try { a(); } catch (NullPointerException e) { } }");
        isNoticed("6", "private void a() { try { a(); } finally { } }");
        isNoticed("6", "public TentFields() { throw new IllegalStateException(); }");
        isNoticed("6", "private synchronized void a() { }");
        isNoticed("6", "private void a() { assert 1 > 0; }");
        isNoticed("6", "public String toString() { return null; }");
        isNoticed("10", "private String a(String b) { return b + 1; }");
        isNoticed("10", "private void a(String b) { b += 1; }");
        isNoticed("11", "private void a(int b, int c, int d, int e, int f, int g, int h, int i) { }");
        isNoticed("11", "private void a() { " + "\n".repeat(90) + " }");
        isNoticed("11", "private int a" + fieldNames() + ";");
        isNoticed("11", chain(9));
    }

    private static void whatIsAllowedIsNot() throws IOException {
        isAllowed("private int a() { throw new IllegalStateException(\"a\"); }");
        isAllowed("private int a() { try { return b(); } catch (IllegalStateException | ArithmeticException e) { return 1; } } "
                + "private int b() { throw new ArithmeticException(); }");
        isAllowed("private final java.util.ArrayList<Integer> a = new java.util.ArrayList<>(); "
                + "private int b() { a.add(1); return a.get(0); }");
        isAllowed("private String a() { StringBuilder b = new StringBuilder(); b.append(1).append(\"x\"); return b.toString(); }");
        isAllowed("private int[] a(int[] b) { System.arraycopy(b, 0, b, 0, 1); return b.clone(); }");
        isAllowed("private enum A { B, C; private static final A[] ALL = values(); } private int a() { return A.ALL.length; }");
        isAllowed("private static int a(int deep) { return deep > 9 ? 0 : a(deep + 1); }");
        isAllowed("private int[][] a = new int[3][4]; private static final char[] B = {'a'};");
        isAllowed("private record A(int b) { int c() { return Math.max(b, Integer.bitCount(b)); } }");
        isAllowed(chain(8));
    }

    private static String fieldNames() {
        StringBuilder names = new StringBuilder();
        for (int field = 0; field < 30; field++) {
            names.append(", a").append(field);
        }
        return names.toString();
    }

    /** Methods of which each one calls the next one. */
    private static String chain(int length) {
        StringBuilder methods = new StringBuilder("private void a" + length + "() { } ");
        for (int at = length - 1; at > 0; at--) {
            methods.append("private void a" + at + "() { a" + (at + 1) + "(); } ");
        }
        return methods.toString();
    }
}
