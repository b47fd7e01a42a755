import java.io.File;
import java.lang.reflect.InvocationTargetException;
import java.lang.reflect.Method;
import java.lang.reflect.Modifier;
import java.net.URL;
import java.net.URLClassLoader;
import java.nio.file.Files;
import java.nio.file.Path;
import java.util.ArrayList;
import java.util.List;
import java.util.TreeSet;
import java.util.regex.Matcher;
import java.util.regex.Pattern;
import javax.tools.JavaCompiler;
import javax.tools.ToolProvider;

/** What README.md tells holds: its examples are compiled and made, its lists of calls and tests are compared with what there is. */
public final class ReadmeTest {
    private static final Check check = new Check("ReadmeTest");
    private static final Pattern CALL = Pattern.compile("(net\\.\\w+\\([^;]*\\));\\s*// (-?\\w+):.*");

    public static void main(String[] args) throws Exception {
        String page = Files.readString(Path.of("README.md"));
        examples(page);
        calls(page);
        tests(page);
        commands(page);
        check.end();
    }

    private static void examples(String page) throws Exception {
        check.part("examples");
        Matcher blocks = Pattern.compile("(?s)```java\n(.*?)```").matcher(page);
        List<Integer> due = new ArrayList<>();
        List<String> told = new ArrayList<>();
        StringBuilder code = new StringBuilder("public final class ReadmeExamples {\n");
        code.append("  public static void make(java.util.List<Integer> answers) {\n");
        while (blocks.find()) {
            code.append("    {\n");
            for (String line : blocks.group(1).split("\n")) {
                Matcher call = CALL.matcher(line);
                if (call.matches()) {
                    told.add(call.group(1));
                    due.add(answer(call.group(2)));
                    code.append("answers.add(").append(call.group(1)).append(");\n");
                } else {
                    check.isTrue("no call without its answer: " + line, !line.startsWith("net."));
                    code.append(line).append('\n');
                }
            }
            code.append("    }\n");
        }
        List<Integer> answers = make(code.append("  }\n}\n").toString());
        check.isTrue("there are examples", told.size() >= 20);
        check.due("how many answers there are", answers.size(), due.size());
        for (int i = 0; i < Math.min(answers.size(), due.size()); i++) {
            check.due(told.get(i), answers.get(i), due.get(i));
        }
    }

    private static int answer(String word) {
        switch (word) {
            case "BAD": return PromisedSlots.BAD;
            case "NO": return PromisedSlots.NO;
            case "FULL": return PromisedSlots.FULL;
            case "NONE": return PromisedSlots.NONE;
            default: return Integer.parseInt(word);
        }
    }

    private static List<Integer> make(String code) throws Exception {
        List<Integer> answers = new ArrayList<>();
        Path folder = Files.createTempDirectory("readme");
        Path file = folder.resolve("ReadmeExamples.java");
        Path made = folder.resolve("ReadmeExamples.class");
        try {
            Files.writeString(file, code);
            JavaCompiler javac = ToolProvider.getSystemJavaCompiler();
            int exit = javac.run(null, null, null, "-cp", System.getProperty("java.class.path"), "-d", folder.toString(), file.toString());
            check.due("compiling the examples", exit, 0);
            if (exit == 0) {
                make(folder, answers);
            }
        } finally {
            Files.deleteIfExists(file);
            Files.deleteIfExists(made);
            Files.deleteIfExists(folder);
        }
        return answers;
    }

    private static void make(Path folder, List<Integer> answers) throws Exception {
        try (URLClassLoader loader = new URLClassLoader(new URL[] {folder.toUri().toURL()})) {
            loader.loadClass("ReadmeExamples").getMethod("make", List.class).invoke(null, answers);
        } catch (InvocationTargetException thrown) {
            check.isTrue("no example throws, but " + thrown.getCause(), false);
        }
    }

    /** The page names each call of the face with the right number of arguments, and no other one. */
    private static void calls(String page) {
        check.part("calls");
        TreeSet<String> face = new TreeSet<>();
        for (Method m : PromisedSlots.class.getDeclaredMethods()) {
            if (Modifier.isPublic(m.getModifiers())) {
                face.add(m.getName() + " of " + m.getParameterCount());
            }
        }
        TreeSet<String> told = new TreeSet<>();
        Matcher calls = Pattern.compile("`(\\w+)\\(([^)]*)\\)`").matcher(page);
        while (calls.find()) {
            int many = calls.group(2).isEmpty() ? 0 : calls.group(2).split(",").length;
            told.add(calls.group(1) + " of " + many);
        }
        check.isTrue("the calls are " + told + ", due are " + face, told.equals(face));
    }

    private static void tests(String page) {
        check.part("tests");
        TreeSet<String> there = new TreeSet<>();
        File[] files = new File("src/test/java").listFiles();
        for (File file : files == null ? new File[0] : files) {
            if (file.getName().endsWith("Test.java")) {
                there.add(file.getName().replace(".java", ""));
            }
        }
        TreeSet<String> told = new TreeSet<>();
        Matcher rows = Pattern.compile("(?m)^\\| (\\w+Test) \\|").matcher(page);
        while (rows.find()) {
            told.add(rows.group(1));
        }
        check.isTrue("the tests are " + told + ", there are " + there, told.equals(there));
    }

    /** Each file or folder that the page names is there, and the script can be run. */
    private static void commands(String page) {
        check.part("commands");
        check.isTrue("the page tells of .ci/run", page.contains("\n    .ci/run\n"));
        check.isTrue(".ci/run can be run", new File(".ci/run").canExecute());
        Matcher paths = Pattern.compile("(?:\\.\\./shared|src)/[\\w/.]*\\w").matcher(page);
        while (paths.find()) {
            check.isTrue(paths.group() + " is there", new File(paths.group()).exists());
        }
    }
}
