import java.io.IOException;
import java.net.URI;
import java.nio.file.Files;
import java.nio.file.Path;
import java.util.List;
import java.util.Set;
import java.util.TreeSet;
import javax.tools.JavaFileObject;
import javax.tools.SimpleJavaFileObject;

/** LANGUAGE.md: the class keeps to its rules, and the test of the rules finds a breach of each. */
final class LanguageTest {
    private static final Checks CHECKS = new Checks("LanguageTest");
    private static final Path CLASS = Path.of("src/main/java/CapabilityDomains.java");

    public static void main(String[] args) throws IOException {
        CHECKS.check("the class",
                breaches(Files.readString(CLASS), "CapabilityDomains").toString(), "[]");
        body("nothing is wrong", "int a; int b() { return a; }", "[]");
        files();
        classesInside();
        typesAndLibrary();
        staticFields();
        exceptions();
        recursionsAndLoops();
        sizes();
        makings();
        CHECKS.finish();
    }

    private static void files() throws IOException {
        file("a package", "package p; public final class Sample { }", "[0]");
        file("two classes", "public final class Sample { } class Other { }", "[0, 1]");
        file("not final", "public class Sample { }", "[1]");
        file("an import", "import java.util.List; public final class Sample { }", "[4]");
        file("the import of the face",
                "import java.util.NoSuchElementException; public final class Sample { }", "[]");
    }

    private static void classesInside() throws IOException {
        body("a class that is static", "private static final class A { }", "[]");
        body("a class that is not", "private class A { }", "[1]");
        body("a class for all", "public static class A { }", "[1]");
        body("a local class", "void a() { class A { } }", "[1, 2]");
        body("a lambda", "interface F { int f(); } Object a() { return (F) () -> 1; }",
                "[1, 2, 6]");
        body("a method reference", "static interface F { void f(); } void a() { F f = this::a; }",
                "[2]");
    }

    private static void typesAndLibrary() throws IOException {
        body("rows of numbers and of own classes",
                "static class A { } int[] a; boolean[] b; A[] c; A d;", "[]");
        body("a type of the library", "Object a;", "[3]");
        body("a row of it", "Object[] a;", "[3]");
        body("a row of rows", "int[][] a;", "[3]");
        body("a text", "void a() { \"x\".length(); }", "[3, 4]");
        body("a call of the library", "void a() { System.gc(); }", "[4]");
        body("a clock", "long a() { return System.nanoTime(); }", "[4]");
        body("an object of the library", "void a() { new Object(); }", "[4]");
    }

    private static void staticFields() throws IOException {
        body("constants", "static final int A = 1; static final int B = -1;", "[]");
        body("not final", "static int a = 1;", "[5]");
        body("worked out", "static final int A = Integer.parseInt(\"1\");", "[3, 4, 5]");
        body("a row", "static final int[] A = {1};", "[5, 12]");
        body("an initialiser", "static { }", "[5]");
    }

    private static void exceptions() throws IOException {
        body("a plain throw", "void a() { throw new IllegalStateException(\"a\"); }", "[]");
        body("a throw without words", "void a() { throw new IllegalStateException(); }", "[]");
        body("words put together", "void a() { throw new IllegalStateException(\"a\" + 1); }",
                "[3, 6]");
        body("another exception", "void a() { throw new IllegalCallerException(); }", "[6]");
        body("a kept exception", "void a(RuntimeException e) { throw e; }", "[3, 6]");
        body("in a constructor", "Sample() { throw new RuntimeException(); }", "[6]");
        body("a try", "void a() { try { a(); } finally { } }", "[6, 8]");
        body("synchronized", "synchronized void a() { synchronized (this) { } }", "[6]");
        body("an assert", "void a() { assert true; }", "[6]");
        body("a cast", "int a(int b) { return (short) b; }", "[6]");
        body("an instanceof", "static class A { } boolean a(A b) { return b instanceof A; }",
                "[6]");
        body("a method of all objects", "public int hashCode() { return 1; }", "[6]");
        body("a division", "int a(int b) { return 1 / b; }", "[7]");
        body("a rest", "int a(int b) { b %= b; return 1 % b; }", "[7]");
    }

    private static void recursionsAndLoops() throws IOException {
        String guard = "static final int MOST = 9; void a(boolean b, int depth) {"
                + " if (depth >= MOST || b) { return; }";
        body("a guarded recursion", guard + " a(b, depth + 1); }", "[]");
        body("the same depth again", guard + " a(b, depth); }", "[8]");
        body("no guard", "void a(int depth) { a(depth + 1); }", "[8]");
        body("no depth", "void a() { a(); }", "[8]");
        body("a ring", "void a() { b(); } void b() { a(); }", "[11]");
        body("a counted for", "void a(int n) { for (int i = 0; i < n; i++) { } }", "[]");
        body("another step", "void a(int n) { for (int i = 0; i < n; i--) { } }", "[9]");
        body("a counter that is changed", "void a(int n) { for (int i = 0; i < n; i++) { i = 0; } }",
                "[9]");
        body("a bound that is changed", "void a(int n) { for (int i = 0; i < n; i++) { n++; } }",
                "[9]");
        body("no end", "void a() { for (;;) { } }", "[9]");
        body("a chain", "static class A { final A b = null; }"
                + " void a(A x) { for (A c = x; c != null; c = c.b) { } }", "[]");
        body("a chain that can be bent", "static class A { A b; }"
                + " void a(A x) { for (A c = x; c != null; c = c.b) { } }", "[9]");
        body("a while", "void a() { while (true) { } }", "[9]");
        body("a do", "void a() { do { } while (true); }", "[9]");
    }

    private static void sizes() throws IOException {
        body("seven parameters", "void a(int z" + numbered(6, ", int a#") + ") { }", "[]");
        body("eight parameters", "void a(int z" + numbered(7, ", int a#") + ") { }", "[11]");
        body("sixty lines", "void a() {" + "\n".repeat(59) + "}", "[]");
        body("sixty-one lines", "void a() {" + "\n".repeat(60) + "}", "[11]");
        body("twelve classes", numbered(11, "static class A# { }"), "[]");
        body("thirteen classes", numbered(12, "static class A# { }"), "[11]");
        body("twenty fields", numbered(20, "int a#;"), "[]");
        body("twenty-one fields", numbered(21, "int a#;"), "[11]");
        body("eight deep", numbered(7, "void a#() { a#+(); }") + "void a7() { }", "[]");
        body("nine deep", numbered(8, "void a#() { a#+(); }") + "void a8() { }", "[11]");
        body("nine deep by constructors", numbered(8, "static class A# { A#() { new A#+(); } }")
                + "static class A8 { A8() { } }", "[11]");
    }

    private static void makings() throws IOException {
        body("an object", "static class A { } void a() { new A(); }", "[]");
        body("an object in a loop",
                "static class A { } void a(int n) { for (int i = 0; i < n; i++) { new A(); } }",
                "[12]");
        body("a row in a constructor", "int[] a; Sample() { a = new int[3]; }", "[]");
        body("a row in a call", "int[] a() { return new int[3]; }", "[12]");
    }

    /** So many copies of a text, # in each the number from 0 on, #+ the next one. */
    private static String numbered(int copies, String text) {
        StringBuilder all = new StringBuilder();
        for (int i = 0; i < copies; i++) {
            all.append(text.replace("#+", String.valueOf(i + 1)).replace("#", String.valueOf(i)));
        }
        return all.toString();
    }

    private static void body(String what, String members, String due) throws IOException {
        file(what, "public final class Sample { " + members + " }", due);
    }

    private static void file(String what, String text, String due) throws IOException {
        Set<Integer> rules = new TreeSet<>();
        for (String breach : breaches(text, "Sample")) {
            rules.add(Integer.valueOf(breach.substring(0, breach.indexOf(':'))));
        }
        CHECKS.check(what, rules.toString(), due);
    }

    private static List<String> breaches(String text, String name) throws IOException {
        return LanguageRules.breaches(new SimpleJavaFileObject(
                URI.create("string:///" + name + ".java"), JavaFileObject.Kind.SOURCE) {
            @Override
            public CharSequence getCharContent(boolean ignoreEncodingErrors) {
                return text;
            }
        });
    }
}
