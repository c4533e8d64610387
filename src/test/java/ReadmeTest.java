import java.io.IOException;
import java.io.StringWriter;
import java.lang.reflect.Method;
import java.lang.reflect.Modifier;
import java.net.URL;
import java.net.URLClassLoader;
import java.nio.file.Files;
import java.nio.file.Path;
import java.util.ArrayList;
import java.util.Comparator;
import java.util.List;
import java.util.regex.Matcher;
import java.util.regex.Pattern;
import java.util.stream.Stream;
import javax.tools.JavaCompiler;
import javax.tools.StandardJavaFileManager;
import javax.tools.ToolProvider;

/** The Java that README.md shows is compiled and run: each call has to answer what is shown behind it. */
public final class ReadmeTest {
    private static final Path README = Path.of("README.md");
    private static final Path TESTS = Path.of("src/test/java");
    private static final Pattern BLOCK = Pattern.compile("^```java\n(.*?)^```$", Pattern.DOTALL | Pattern.MULTILINE);
    private static final Pattern SHOWN = Pattern.compile("(x\\.\\w+\\([^;]*\\)|tell\\(x, \"[^\"]*\"\\)); +// (-?\\d+)(: .*)?");

    private static int wrong = 0;
    private static int shown = 0;

    private static void must(boolean ok, String what) {
        if (!ok) {
            wrong++;
            System.out.println("README: " + what);
        }
    }

    /** Called by the program that is made of the blocks. */
    public static void due(String call, int got, int want) {
        shown++;
        must(got == want, call + " answers " + got + ", shown is " + want);
    }

    public static void main(String[] args) throws IOException, ReflectiveOperationException {
        String page = Files.readString(README);
        everyCallIsShown(page);
        everyTestIsNamed(page);
        List<String> blocks = new ArrayList<>();
        for (Matcher m = BLOCK.matcher(page); m.find();) blocks.add(m.group(1));
        must(!blocks.isEmpty(), "there is no Java");
        run(program(blocks), blocks.size());
        must(shown > 0, "no answer was compared");
        System.out.println(wrong == 0 ? "README: " + shown + " answers are as shown" : "README: " + wrong + " things are not as shown");
        if (wrong != 0) System.exit(1);
    }

    private static void everyCallIsShown(String page) {
        for (Method m : GapProofs.class.getDeclaredMethods()) {
            if (!Modifier.isPublic(m.getModifiers())) continue;
            boolean there = page.contains("x." + m.getName() + "(") && page.contains("`" + m.getName() + "`");
            must(there, m.getName() + " is not shown");
        }
    }

    private static void everyTestIsNamed(String page) throws IOException {
        try (Stream<Path> files = Files.list(TESTS)) {
            for (Path f : files.toList()) {
                String name = f.getFileName().toString().replace(".java", "");
                must(page.contains("`" + name + "`"), name + " is not named");
            }
        }
        for (Matcher m = Pattern.compile("`(\\w+Test)`").matcher(page); m.find();)
            must(Files.exists(TESTS.resolve(m.group(1) + ".java")), m.group(1) + " is no test");
    }

    /** A block that begins with a static method is for all; each other one stands by itself. */
    private static String program(List<String> blocks) {
        StringBuilder s = new StringBuilder("final class ReadmeProgram {\n");
        StringBuilder all = new StringBuilder();
        for (String block : blocks) {
            if (block.startsWith("static ")) {
                s.append(block);
                continue;
            }
            String name = "block" + all.length();
            s.append("static void ").append(name).append("() {\n");
            for (String line : block.split("\n")) s.append(compared(line)).append('\n');
            s.append("}\n");
            all.append(name).append("();\n");
        }
        return s.append("public static void main(String[] args) {\n").append(all).append("}\n}\n").toString();
    }

    private static String compared(String line) {
        Matcher m = SHOWN.matcher(line);
        if (m.matches()) {
            String call = m.group(1).replace("\"", "\\\"");
            return "ReadmeTest.due(\"" + call + "\", " + m.group(1) + ", " + m.group(2) + ");";
        }
        must(!line.startsWith("x.") && !line.startsWith("tell("), "no answer is shown: " + line);
        return line;
    }

    private static void run(String program, int blocks) throws IOException, ReflectiveOperationException {
        Path work = Files.createTempDirectory("readme");
        try {
            Path source = work.resolve("ReadmeProgram.java");
            Files.writeString(source, program);
            JavaCompiler compiler = ToolProvider.getSystemJavaCompiler();
            must(compiler != null, "there is no compiler");
            if (compiler == null) return;
            StringWriter told = new StringWriter();
            List<String> options = List.of("--release", "17", "-d", work.toString(), "-cp", System.getProperty("java.class.path"));
            boolean ok;
            try (StandardJavaFileManager files = compiler.getStandardFileManager(null, null, null)) {
                ok = compiler.getTask(told, files, null, options, null, files.getJavaFileObjects(source)).call();
            }
            must(ok, "its " + blocks + " blocks do not compile: " + told);
            if (!ok) return;
            try (URLClassLoader loader = new URLClassLoader(new URL[] {work.toUri().toURL()}, ReadmeTest.class.getClassLoader())) {
                Method main = loader.loadClass("ReadmeProgram").getDeclaredMethod("main", String[].class);
                main.setAccessible(true);
                main.invoke(null, (Object) new String[0]);
            }
        } finally {
            try (Stream<Path> files = Files.walk(work)) {
                for (Path f : files.sorted(Comparator.reverseOrder()).toList()) Files.delete(f);
            }
        }
    }
}
