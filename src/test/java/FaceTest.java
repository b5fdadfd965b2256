import java.io.IOException;
import java.lang.management.ManagementFactory;
import java.lang.reflect.Constructor;
import java.lang.reflect.Field;
import java.lang.reflect.Method;
import java.lang.reflect.Modifier;
import java.nio.file.Files;
import java.nio.file.Path;
import java.util.Arrays;
import java.util.HashSet;
import java.util.Set;
import java.util.TreeSet;
import java.util.regex.Matcher;
import java.util.regex.Pattern;

/** The public face of the document, and those rules of LANGUAGE.md that a program can see. */
public final class FaceTest {
    private static final Due due = new Due("FaceTest");
    /** Each method of the face with how many ints it takes. */
    private static final String FACE = "sun3 rock5 speed3 stock3 lay1 told2 isOf2 weigh3 learnt2 tug4 is2 moor2 dark2 has2 feed3 trim1 program1 send2 run1 rule2"
        + " known2 patch2 miss4 contract5 about2 paid0 window6 shut0 tour5 leg1 tell1 check0 keep0 back0 sheet2 mark3 copy5 count1";
    private static final String CONSTANTS = "BAD NO FULL SPENT NONE NOTHING INDEX SIZE";
    private static final int[] VALUES = {-1000000001, -1000000002, -1000000003, -1000000004, -1000000005, -1000000011, -1000000013, -1000000014};

    public static void main(String[] args) throws Exception {
        methods();
        constants();
        nested();
        document();
        source();
        room();
        due.end();
    }

    private static void yes(String what, boolean holds) {
        due.is(what, holds ? 1 : 0, 1);
    }

    private static void methods() {
        Class<?> face = RockTugs.class;
        yes("public and final", Modifier.isPublic(face.getModifiers()) && Modifier.isFinal(face.getModifiers()));
        yes("no package", face.getPackageName().isEmpty());
        Constructor<?>[] made = face.getDeclaredConstructors();
        yes("one constructor", made.length == 1 && Modifier.isPublic(made[0].getModifiers()) && made[0].getParameterCount() == 0);
        Set<String> want = new TreeSet<>(Arrays.asList(FACE.split(" ")));
        Set<String> got = new TreeSet<>();
        Set<String> publicNames = new HashSet<>();
        for (Method m : face.getDeclaredMethods()) {
            if (Modifier.isPrivate(m.getModifiers()) || m.isSynthetic()) continue;
            yes(m.getName() + " is public and no static", Modifier.isPublic(m.getModifiers()) && !Modifier.isStatic(m.getModifiers()));
            yes(m.getName() + " answers an int", m.getReturnType() == int.class);
            for (Class<?> type : m.getParameterTypes()) yes(m.getName() + " takes ints", type == int.class);
            got.add(m.getName() + m.getParameterCount());
            publicNames.add(m.getName());
        }
        yes("the methods of the face: " + got, got.equals(want));
        yes("40 promises less one", want.size() == 38);
        privateNames(face, publicNames);
        for (Class<?> inside : face.getDeclaredClasses()) privateNames(inside, publicNames);
    }

    private static void privateNames(Class<?> of, Set<String> publicNames) {
        for (Method m : of.getDeclaredMethods()) {
            boolean hidden = Modifier.isPrivate(m.getModifiers());
            yes(of.getName() + "." + m.getName() + " has a name of its own", !hidden || !publicNames.contains(m.getName()));
            yes(of.getName() + "." + m.getName() + " takes at most seven", m.getParameterCount() <= 7);
        }
    }

    private static void constants() throws IllegalAccessException {
        String[] names = CONSTANTS.split(" ");
        int seen = 0;
        for (Field f : RockTugs.class.getDeclaredFields()) {
            boolean fixed = !Modifier.isStatic(f.getModifiers()) || Modifier.isFinal(f.getModifiers());
            yes(f.getName() + " is final, if static", fixed);
            if (Modifier.isPrivate(f.getModifiers())) continue;
            int at = Arrays.asList(names).indexOf(f.getName());
            yes(f.getName() + " is of the face", at >= 0 && Modifier.isPublic(f.getModifiers()) && Modifier.isStatic(f.getModifiers()) && f.getType() == int.class);
            if (at >= 0) due.is(f.getName(), f.getInt(null), VALUES[at]);
            seen++;
        }
        due.is("constants", seen, names.length);
    }

    private static void nested() {
        Class<?>[] inside = RockTugs.class.getDeclaredClasses();
        yes("some twelve classes", inside.length + 1 <= 12);
        for (Class<?> c : inside) {
            yes(c.getName() + " is static", Modifier.isStatic(c.getModifiers()));
            yes(c.getName() + " is not public", !Modifier.isPublic(c.getModifiers()) && !Modifier.isProtected(c.getModifiers()));
            int fields = 0;
            for (Field f : c.getDeclaredFields()) {
                if (!Modifier.isStatic(f.getModifiers())) fields++;
            }
            yes(c.getName() + " has some twenty fields", fields <= 20);
        }
    }

    /** The source has the lines of the document's face, in their order, and what it says ahead of some calls. */
    private static void document() throws IOException {
        Path file = Path.of("../shared/DOC.md");
        if (!Files.isReadable(file)) return;
        String doc = Files.readString(file);
        String code = Files.readString(Path.of("src/main/java/RockTugs.java"));
        String face = doc.substring(doc.indexOf("```java") + 7, doc.indexOf("```\n\n## Terms"));
        int lines = 0;
        int at = 0;
        for (String line : face.split("\n")) {
            if (!line.contains("(") && !line.contains("=")) continue;
            String wanted = line.strip();
            if (wanted.endsWith(");")) wanted = wanted.substring(0, wanted.length() - 1) + " {";
            int next = code.indexOf(wanted, at);
            yes("the source has, in its order: " + wanted, next >= 0);
            at = Math.max(at, next);
            lines++;
        }
        due.is("lines of the face", lines, 40);
        Matcher ahead = Pattern.compile("Ahead of the calls `(\\w+)`.* the interface says: (---- .*)\\.").matcher(doc);
        int many = 0;
        for (; ahead.find(); many++) {
            Matcher call = Pattern.compile(Pattern.quote("// " + ahead.group(2)) + "\\s+public int " + ahead.group(1) + "\\(").matcher(code);
            yes("ahead of " + ahead.group(1) + ": " + ahead.group(2), call.find());
        }
        due.is("lines ahead of calls", many, 6);
    }

    /** Words and signs that LANGUAGE.md does not have, in the code without its comments and texts. */
    private static void source() throws IOException {
        String text = Files.readString(Path.of("src/main/java/RockTugs.java"));
        for (int i = 0; i < text.length(); i++) {
            if (text.charAt(i) > 126) due.is("sign at " + i, text.charAt(i), 126);
        }
        String code = text.replaceAll("(?s)/\\*.*?\\*/", " ").replaceAll("//[^\n]*", " ").replaceAll("\"[^\"\n]*\"", "TEXT").replaceAll("'[^'\n]*'", "SIGN");
        String[] words = {"throw", "throws", "try", "catch", "finally", "synchronized", "assert", "import", "package", "protected", "volatile", "transient",
            "native", "double", "float", "Object", "Thread", "Random", "var", "yield", "hashCode", "toString", "lambda"};
        for (String word : words) yes("no " + word, !Pattern.compile("\\b" + word + "\\b").matcher(code).find());
        yes("no lambda", !code.contains("->"));
        yes("no method reference", !code.contains("::"));
        yes("no annotation", !code.contains("@"));
        yes("no text joined by +", !Pattern.compile("TEXT\\s*\\+|\\+\\s*TEXT").matcher(code).find());
        Matcher calls = Pattern.compile("\\b(Math|System|Integer|Long|Arrays)\\.(\\w+)").matcher(code);
        Set<String> allowed = Set.of("Math.max", "Math.min", "Math.abs", "System.arraycopy");
        while (calls.find()) yes(calls.group(), allowed.contains(calls.group()));
        for (String line : text.split("\n")) yes("a line is not too long: " + line, line.length() <= 220);
    }

    /** Calls make no objects: all of them live in one room. */
    private static void room() {
        com.sun.management.ThreadMXBean meter = (com.sun.management.ThreadMXBean) ManagementFactory.getThreadMXBean();
        due.is("calls", busyRun(), 1);
        long before = meter.getCurrentThreadAllocatedBytes();
        RockTugs made = new RockTugs();
        long size = meter.getCurrentThreadAllocatedBytes() - before;
        yes("a new object is small: " + size, size < 64 * 1024 && made.count(1) == 0);
        before = meter.getCurrentThreadAllocatedBytes();
        int answered = busyRun();
        long all = meter.getCurrentThreadAllocatedBytes() - before;
        yes("calls make no objects: " + (all - size), answered == 1 && all - size < 4 * 1024);
    }

    private static int busyRun() {
        RockTugs x = new RockTugs();
        for (int i = 0; i < 8; i++) x.rock(i % 4, i, i, 5, i);
        for (int i = 0; i < 4; i++) x.tug(i, i, i, 999);
        for (int i = 0; i < 16; i++) x.window(i % 8, (i + 1) % 8, 0, 999, 0, 1);
        for (int i = 0; i < 60; i++) {
            x.feed(0x7768696c, 0x6520667b, 0x636c6169);
            x.feed(0x6d206469, 0x67206275, 0x726e2031);
            x.feed(0x2c322066, 0x7265657d, 0x20202020);
            x.program(i % 4);
            x.send(i % 4, i % 4);
            x.run(5);
            x.keep();
            x.tour(0, 0, 0, 2000, 20000);
            x.miss(0, 13, 60, 0);
            x.back();
        }
        return x.count(11) == 300 ? 1 : 0;
    }
}
