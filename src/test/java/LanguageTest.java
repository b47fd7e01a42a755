import java.lang.reflect.Constructor;
import java.lang.reflect.Field;
import java.lang.reflect.Method;
import java.lang.reflect.Modifier;
import java.nio.file.Files;
import java.nio.file.Path;
import java.util.Arrays;
import java.util.List;
import java.util.TreeSet;
import java.util.regex.Matcher;
import java.util.regex.Pattern;

/** The public face, those rules of ../shared/LANGUAGE.md that a look at the file can tell, and the room that calls take. */
public final class LanguageTest {
    private static final Check check = new Check("LanguageTest");
    private static final Path FILE = Path.of("src/main/java/PromisedSlots.java");
    private static final List<String> FACE = List.of("int air(int, int)", "int ask(int, int)", "int cause(int)",
        "int coordinator(int, int)", "int count(int)", "int deafen(int, int)", "int device(int, int)", "int drop(int)", "int fault()",
        "int join(int, int)", "int lay()", "int load(int, int, int)", "int nest(int, int)", "int promise(int, int, int)",
        "int release(int)", "int run(int)", "int scan(int)", "int seed(int)", "int wipe()", "int write(int)");

    public static void main(String[] args) throws Exception {
        face();
        nestedClasses();
        words();
        shape();
        room();
        check.end();
    }

    private static void face() {
        check.part("the face");
        Class<?> c = PromisedSlots.class;
        check.isTrue("public and final", Modifier.isPublic(c.getModifiers()) && Modifier.isFinal(c.getModifiers()));
        TreeSet<String> methods = new TreeSet<>();
        TreeSet<String> names = new TreeSet<>();
        for (Method m : c.getDeclaredMethods()) {
            if (Modifier.isPublic(m.getModifiers())) {
                String types = Arrays.toString(m.getParameterTypes());
                methods.add(m.getReturnType() + " " + m.getName() + "(" + types.substring(1, types.length() - 1) + ")");
                names.add(m.getName());
            }
        }
        check.isTrue("the methods are " + methods, methods.equals(new TreeSet<>(FACE)));
        for (Method m : c.getDeclaredMethods()) {
            int mods = m.getModifiers();
            check.isTrue(m + " is public or private", Modifier.isPublic(mods) || Modifier.isPrivate(mods));
            check.isTrue(m + " bears a name of its own", Modifier.isPublic(mods) || !names.contains(m.getName()));
            check.isTrue(m + " is no static one of the face", !Modifier.isPublic(mods) || !Modifier.isStatic(mods));
        }
        Constructor<?>[] made = c.getDeclaredConstructors();
        check.isTrue("one constructor", made.length == 1 && made[0].getParameterCount() == 0 && Modifier.isPublic(made[0].getModifiers()));
        TreeSet<String> constants = new TreeSet<>();
        for (Field f : c.getDeclaredFields()) {
            int mods = f.getModifiers();
            check.isTrue(f + " is public or private", Modifier.isPublic(mods) || Modifier.isPrivate(mods));
            if (Modifier.isPublic(mods)) {
                constants.add(f.getName());
                check.isTrue(f + " is a constant", Modifier.isStatic(mods) && Modifier.isFinal(mods) && f.getType() == int.class);
            }
        }
        check.isTrue("the constants", constants.equals(new TreeSet<>(List.of("BAD", "NO", "FULL", "NONE"))));
    }

    private static void nestedClasses() {
        check.part("classes inside");
        Class<?>[] inside = PromisedSlots.class.getDeclaredClasses();
        check.isTrue("some twelve classes at most", inside.length < 12);
        for (Class<?> c : inside) {
            int mods = c.getModifiers();
            check.isTrue(c + " is static", Modifier.isStatic(mods));
            check.isTrue(c + " is not shown", !Modifier.isPublic(mods) && !Modifier.isProtected(mods));
            int fields = 0;
            for (Field f : c.getDeclaredFields()) {
                boolean fixed = Modifier.isStatic(f.getModifiers());
                check.isTrue(f + " is no changing static", !fixed || Modifier.isFinal(f.getModifiers()));
                fields += fixed ? 0 : 1;
            }
            check.isTrue(c + " has some twenty fields", fields <= 20);
            check.isTrue(c + " stands alone", c.getDeclaredClasses().length == 0);
        }
    }

    /** The program without its comments, its texts and its letters. */
    private static String bare() throws Exception {
        String all = Files.readString(FILE);
        return all.replaceAll("(?s)/\\*.*?\\*/", "").replaceAll("//[^\n]*", "").replaceAll("\"[^\"\n]*\"", "T").replaceAll("'.'", "L");
    }

    private static void words() throws Exception {
        check.part("words");
        String code = bare();
        for (String word : new String[] {"throw", "throws", "try", "catch", "finally", "synchronized", "assert", "instanceof", "native",
            "volatile", "transient", "Object", "System", "Thread", "Random", "Iterator", "Stream", "package", "protected", "equals", "hashCode",
            "toString", "float", "double"}) {
            check.isTrue("no " + word, !Pattern.compile("\\b" + word + "\\b").matcher(code).find());
        }
        check.isTrue("no lambda, no method reference", !code.contains("->") && !code.contains("::"));
        check.isTrue("no annotation", !code.contains("@"));
        check.isTrue("no static block", !Pattern.compile("static\\s*\\{").matcher(code).find());
        check.isTrue("no Exact", !code.contains("Exact"));
        Matcher imports = Pattern.compile("import ([^;]*);").matcher(code);
        while (imports.find()) {
            check.isTrue("import " + imports.group(1), imports.group(1).equals("java.util.Arrays"));
        }
        check.isTrue("signs of ASCII alone", Files.readString(FILE).chars().allMatch(sign -> sign == 10 || sign >= 32 && sign <= 126));
        check.isTrue("no package", !code.contains("package "));
    }

    private static void shape() throws Exception {
        check.part("shape");
        String[] lines = Files.readString(FILE).split("\n");
        for (int i = 0; i < lines.length; i++) {
            check.isTrue("line " + (i + 1) + " is no longer than 130", lines[i].length() <= 130);
            Matcher head = Pattern.compile("( +)(?!if|for|while|switch|\\})\\w.*\\) \\{").matcher(lines[i]);
            if (head.matches()) {
                int end = i;
                while (!lines[end].equals(head.group(1) + "}")) {
                    end++;
                }
                check.isTrue("sixty lines at most from line " + (i + 1), end - i <= 60);
            }
        }
        Matcher heads = Pattern.compile("\\w+ \\w+\\(([^()]*)\\) \\{").matcher(bare());
        while (heads.find()) {
            check.isTrue("seven parameters at most: " + heads.group(), heads.group(1).split(",").length <= 7);
        }
    }

    /** Calls make no objects: all rows are made with the object. */
    private static void room() {
        check.part("room");
        com.sun.management.ThreadMXBean threads = (com.sun.management.ThreadMXBean) java.lang.management.ManagementFactory.getThreadMXBean();
        PromisedSlots x = new PromisedSlots();
        manyCalls(x);
        long before = threads.getCurrentThreadAllocatedBytes();
        for (int i = 0; i < 100; i++) {
            manyCalls(x);
        }
        long calls = threads.getCurrentThreadAllocatedBytes() - before;
        check.isTrue("100 rounds of calls took " + calls + " bytes", calls < 10_000);
        before = threads.getCurrentThreadAllocatedBytes();
        for (int i = 0; i < 100; i++) {
            x = new PromisedSlots();
        }
        long objects = threads.getCurrentThreadAllocatedBytes() - before;
        check.isTrue("100 objects took " + objects + " bytes", objects < 100 * 16_000L && x.count(0) == 3);
    }

    private static void manyCalls(PromisedSlots x) {
        String text = "o418;d023;d012;d031;c00192;d123;d112;c00400;d221;l3;";
        x.wipe();
        for (int i = 0; i < text.length(); i++) {
            x.write(text.charAt(i));
            x.fault();
        }
        x.lay();
        x.nest(0, 600);
        for (int d = 0; d < 6; d++) {
            x.load(d, 0, 20);
            x.load(d, 1, 20);
            x.ask(d, 2);
            x.deafen(d, d);
        }
        x.run(20);
        for (int d = 0; d < 6; d++) {
            x.release(d);
            x.scan(d);
            x.join(d, 3);
            x.drop(d);
            x.device(d, d);
            x.coordinator(d, d);
            x.promise(d, 0, 0);
            x.air(d, d);
            x.count(d);
            x.cause(d);
        }
    }
}
