import java.lang.management.ManagementFactory;
import java.lang.reflect.Constructor;
import java.lang.reflect.Field;
import java.lang.reflect.Method;
import java.lang.reflect.Modifier;
import java.nio.file.Files;
import java.nio.file.Path;
import java.util.Arrays;
import java.util.Map;
import java.util.Set;
import java.util.TreeMap;
import java.util.regex.Matcher;
import java.util.regex.Pattern;

/** The public face, the rules of LANGUAGE.md that a test can see, and that calls make no objects. */
public final class FaceTest {
    /** Of each method that the document's face has: its name, and what it takes. */
    private static final Map<String, String> METHODS = new TreeMap<>();

    private FaceTest() { }

    public static void main(String[] args) throws Exception {
        readFace(Due.document());
        face();
        constants();
        members(CallSigns.class);
        source(Files.readString(Path.of(System.getProperty("source", "src/main/java/CallSigns.java"))));
        callsMakeNothing();
        Due.end("FaceTest");
    }

    private static void readFace(String doc) {
        int start = doc.indexOf("## The public face");
        String face = doc.substring(start, doc.indexOf("\n## ", start));
        Matcher method = Pattern.compile("public int (\\w+)\\(([^)]*)\\);").matcher(face);
        while (method.find()) METHODS.put(method.group(1), method.group(2).replaceAll("(int|long) \\w+", "$1"));
        Due.due("methods of the document's face", METHODS.size(), 36);
    }

    private static void face() {
        Due.holds("public and final", Modifier.isPublic(CallSigns.class.getModifiers())
                && Modifier.isFinal(CallSigns.class.getModifiers()));
        Map<String, String> found = new TreeMap<>();
        for (Method m : CallSigns.class.getDeclaredMethods()) {
            if (Modifier.isPrivate(m.getModifiers())) continue;
            String takes = Arrays.toString(m.getParameterTypes());
            Due.holds(m + " is the only one of its name",
                    found.put(m.getName(), takes.substring(1, takes.length() - 1)) == null);
            Due.holds(m + " is public and answers an int", Modifier.isPublic(m.getModifiers())
                    && !Modifier.isStatic(m.getModifiers()) && m.getReturnType() == int.class);
        }
        Due.holds("methods are " + found + ", due are " + METHODS, found.equals(METHODS));
        Constructor<?>[] made = CallSigns.class.getDeclaredConstructors();
        Due.holds("one public constructor", made.length == 1 && Modifier.isPublic(made[0].getModifiers())
                && made[0].getParameterCount() == 0);
    }

    private static void constants() throws Exception {
        Due.due("BAD", CallSigns.BAD, -1);
        Due.due("NO", CallSigns.NO, -2);
        Due.due("FULL", CallSigns.FULL, -3);
        Due.due("NONE", CallSigns.NONE, -4);
        for (Field f : CallSigns.class.getDeclaredFields()) {
            boolean constant = Set.of("BAD", "NO", "FULL", "NONE").contains(f.getName());
            Due.holds(f + " is private or a constant of the face",
                    constant ? Modifier.isPublic(f.getModifiers()) : Modifier.isPrivate(f.getModifiers()));
        }
    }

    private static void members(Class<?> of) {
        int fields = 0;
        for (Field f : of.getDeclaredFields()) {
            if (Modifier.isStatic(f.getModifiers())) {
                Due.holds(f + " is final", Modifier.isFinal(f.getModifiers()));
            } else {
                fields++;
            }
        }
        Due.holds(of + " has some twenty fields at most", fields <= 20);
        for (Method m : of.getDeclaredMethods()) {
            Due.holds(m + " takes at most seven", m.getParameterCount() <= 7);
            Due.holds(m + " does not bear a public one's name",
                    Modifier.isPublic(m.getModifiers()) || !METHODS.containsKey(m.getName()));
        }
        Class<?>[] inside = of.getDeclaredClasses();
        Due.holds(of + " has some twelve classes at most", inside.length <= 12);
        for (Class<?> c : inside) {
            Due.holds(c + " is static and not public", Modifier.isStatic(c.getModifiers())
                    && !Modifier.isPublic(c.getModifiers()) && !Modifier.isProtected(c.getModifiers()));
            members(c);
        }
    }

    private static void source(String text) {
        String code = text.replaceAll("(?s)/\\*.*?\\*/", "").replaceAll("//[^\n]*", "");
        for (String word : new String[] {"package", "try", "catch", "throw", "finally", "synchronized", "assert",
            "double", "float", "instanceof", "lambda", "System", "Exact", "Random", "Thread", "String", "Object"}) {
            Due.holds("no " + word, !Pattern.compile("\\b" + word + "\\b").matcher(code).find());
        }
        Due.holds("no arrow, no method reference", !code.contains("->") && !code.contains("::"));
        Due.holds("no static block", !Pattern.compile("static\\s*\\{").matcher(code).find());
        Matcher imports = Pattern.compile("import ([^;]*);").matcher(code);
        while (imports.find()) Due.holds("import " + imports.group(1), imports.group(1).equals("java.util.Arrays"));
        Matcher library = Pattern.compile("\\b(Arrays|Math|Integer|Long)\\.(\\w+)").matcher(code);
        Set<String> allowed = Set.of("Arrays.fill", "Math.abs", "Math.min", "Math.max", "Integer.bitCount", "Long.bitCount");
        while (library.find()) Due.holds("library " + library.group(), allowed.contains(library.group()));
        // Objects are made as fields are; a method that makes one would make it at each call.
        Matcher made = Pattern.compile("\n([^\n]*)\\bnew\\b").matcher(code);
        while (made.find()) Due.holds("made as a field: " + made.group(1), made.group(1).contains("final "));
        longestMethod(text);
    }

    private static void longestMethod(String text) {
        int start = -1;
        String[] lines = text.split("\n");
        for (int i = 0; i < lines.length; i++) {
            if (lines[i].matches("( {4}| {8})[a-z][^=;]*\\) \\{")) start = i;
            if (start >= 0 && lines[i].matches("( {4}| {8})\\}")) {
                Due.holds(lines[start].trim() + " is short", i - start < 60);
                start = -1;
            }
        }
    }

    private static void callsMakeNothing() {
        com.sun.management.ThreadMXBean bean = (com.sun.management.ThreadMXBean) ManagementFactory.getThreadMXBean();
        long id = Thread.currentThread().getId();
        // A round is some 300 calls, and an object is used for at most 512: so each round has its own.
        CallSigns[] objects = new CallSigns[50];
        for (int i = 0; i < objects.length; i++) objects[i] = new CallSigns();
        allKinds(new CallSigns());
        long before = bean.getThreadAllocatedBytes(id);
        for (CallSigns c : objects) allKinds(c);
        long made = bean.getThreadAllocatedBytes(id) - before;
        Due.holds("50 rounds of all calls made " + made + " bytes", made < 20_000);
    }

    private static void allKinds(CallSigns c) {
        for (int i = 0; i < 20; i++) c.call(i % 7, (i + 1) % 7, i * 5, 1 + i % 3, i % 8, i * 4);
        c.wipe();
        Due.write(c, "p1,2;k1,1;x1,2,3;");
        c.fault();
        c.take();
        c.keep();
        c.back();
        c.bearing(0, 0, 0, 1, 1, 9);
        c.listen(0, 0, 479);
        c.event(9);
        for (int n = 0; n < 12; n++) {
            c.name(n, n);
            c.post(n, n);
            c.hand(n);
            c.odds(n, n + 1, 0);
            c.like(n, n, n);
            c.follow(n, n, 1);
            c.sum(n);
            c.rules(n);
            c.trace(n, n);
            c.held(n, 1);
            c.fate(n);
            c.sign(n, 0, 0, 19);
            c.tree(n, 0, n, n % 3);
            c.lacks(n, 0, 19);
            c.patch(n, 0, 1);
            c.isIn(n, 0, n, n);
            c.moved(n, 0, n);
            c.silent(n, 40, n);
            c.ahead(n, 5, n % 4);
            c.waves(n, 0, 19, n % 3);
            c.count(n);
        }
        c.hands();
        c.show(0, 19);
        c.hearer(0, 1, 1);
        c.apart(3);
        c.within(2);
    }
}
