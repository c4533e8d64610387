import java.io.IOException;
import java.lang.reflect.Constructor;
import java.lang.reflect.Field;
import java.lang.reflect.Method;
import java.lang.reflect.Modifier;
import java.nio.file.Files;
import java.nio.file.Path;
import java.util.ArrayList;
import java.util.List;
import java.util.Set;
import java.util.TreeSet;
import java.util.regex.Matcher;
import java.util.regex.Pattern;

/** The public face of the document, and those rules of LANGUAGE.md that can be seen without understanding the code. */
public final class LanguageTest {
    private static final Path SOURCE = Path.of("src/main/java/GapProofs.java");
    private static final String[] FACE = {"feed 1", "end 1", "text 0", "fault 0", "label 3", "up 1", "owner 2", "name 1",
        "letter 2", "zone 2", "key 3", "rule 1", "answer 2", "ask 1", "item 2", "lose 1", "alter 3", "rename 2", "sign 1",
        "check 0", "checked 1", "entry 2", "tick 1", "publish 2", "retire 2", "digest 2", "undigest 2", "why 2",
        "activate 2", "put 2", "remove 1", "keep 1", "back 1"};
    private static final String[] FORBIDDEN = {"\\bthrow\\b", "\\bthrows\\b", "\\btry\\b", "\\bcatch\\b", "\\bfinally\\b",
        "\\bsynchronized\\b", "\\bassert\\b", "->", "::", "\\bimport\\b", "\\bpackage\\b", "\\bprotected\\b", "\\bstrictfp\\b",
        "\\bvolatile\\b", "\\btransient\\b", "\\bnative\\b", "\\bvar\\b", "\\bObject\\b", "\\bequals\\b", "\\bhashCode\\b",
        "\\btoString\\b", "\\bSystem\\.(?!arraycopy\\b)", "\\bMath\\.\\w*Exact\\b", "\\bThread\\b", "\\bstatic\\s*\\{",
        "while\\s*\\(\\s*true", "for\\s*\\(\\s*;\\s*;"};

    private static int wrong = 0;

    private static void must(boolean ok, String what) {
        if (!ok) {
            wrong++;
            System.out.println("language: " + what);
        }
    }

    public static void main(String[] args) throws IOException {
        face();
        classesInside();
        String source = Files.readString(SOURCE);
        signs(source);
        String code = withoutTexts(source);
        words(code);
        methods(code);
        System.out.println(wrong == 0 ? "language: as due" : "language: " + wrong + " things are not as due");
        if (wrong != 0) System.exit(1);
    }

    private static void face() {
        must(Modifier.isFinal(GapProofs.class.getModifiers()), "the class is not final");
        Set<String> due = new TreeSet<>(List.of(FACE)), got = new TreeSet<>();
        for (Method m : GapProofs.class.getDeclaredMethods()) {
            if (m.isSynthetic() || Modifier.isPrivate(m.getModifiers())) continue;
            must(Modifier.isPublic(m.getModifiers()) && !Modifier.isStatic(m.getModifiers()), m + " is not of the face");
            must(m.getReturnType() == int.class, m + " answers no int");
            for (Class<?> p : m.getParameterTypes()) must(p == int.class, m + " takes what is no int");
            got.add(m.getName() + " " + m.getParameterCount());
        }
        must(due.equals(got), "methods are " + got + ", due are " + due);
        Set<String> constants = new TreeSet<>();
        for (Field f : GapProofs.class.getDeclaredFields()) {
            if (Modifier.isStatic(f.getModifiers())) must(Modifier.isFinal(f.getModifiers()), f + " is not final");
            if (!Modifier.isPrivate(f.getModifiers())) constants.add(f.getName());
        }
        must(constants.equals(Set.of("BAD", "STATE", "FULL", "NONE")), "constants are " + constants);
        Constructor<?>[] made = GapProofs.class.getDeclaredConstructors();
        must(made.length == 1 && made[0].getParameterCount() == 0 && Modifier.isPublic(made[0].getModifiers()), "constructors");
    }

    private static void classesInside() {
        Set<String> publicNames = new TreeSet<>();
        for (String f : FACE) publicNames.add(f.substring(0, f.indexOf(' ')));
        for (Method m : GapProofs.class.getDeclaredMethods())
            if (Modifier.isPrivate(m.getModifiers())) must(!publicNames.contains(m.getName()), m + " bears a public name");
        Class<?>[] inside = GapProofs.class.getDeclaredClasses();
        must(inside.length <= 12, inside.length + " classes inside");
        for (Class<?> c : inside) {
            must(Modifier.isStatic(c.getModifiers()), c + " is not static");
            must(!Modifier.isPublic(c.getModifiers()) && !Modifier.isProtected(c.getModifiers()), c + " is seen outside");
            must(c.getDeclaredClasses().length == 0, c + " has classes of its own");
            int fields = 0;
            for (Field f : c.getDeclaredFields()) {
                if (!Modifier.isStatic(f.getModifiers())) fields++;
                else must(Modifier.isFinal(f.getModifiers()), f + " is not final");
            }
            must(fields <= 20, c + " has " + fields + " fields");
            for (Method m : c.getDeclaredMethods()) must(!publicNames.contains(m.getName()), m + " bears a public name");
        }
    }

    private static void signs(String source) {
        for (int i = 0; i < source.length(); i++) {
            char ch = source.charAt(i);
            must(ch == '\n' || (ch >= ' ' && ch < 127), "the sign " + (int) ch + " at " + i);
        }
    }

    private static String withoutTexts(String source) {
        String s = Pattern.compile("/\\*.*?\\*/", Pattern.DOTALL).matcher(source).replaceAll(" ");
        s = s.replaceAll("//[^\n]*", " ");
        return s.replaceAll("\"(\\\\.|[^\"\\\\])*\"", "\"\"").replaceAll("'(\\\\.|[^'\\\\])'", "0");
    }

    private static void words(String code) {
        for (String f : FORBIDDEN) {
            Matcher m = Pattern.compile(f).matcher(code);
            must(!m.find(), "there is " + f);
        }
        must(!code.contains("\"\" +") && !code.contains("+ \"\""), "texts are joined by +");
    }

    private static void methods(String code) {
        Pattern head = Pattern.compile("^ {4,8}[\\w\\[\\] ]*\\b\\w+\\(([^()]*)\\) \\{$");
        String[] lines = code.split("\n");
        List<Integer> starts = new ArrayList<>();
        for (int i = 0; i < lines.length; i++) {
            Matcher m = head.matcher(lines[i]);
            if (!m.matches()) continue;
            starts.add(i);
            int parameters = m.group(1).isBlank() ? 0 : m.group(1).split(",").length;
            must(parameters <= 7, "too many parameters: " + lines[i]);
            String close = lines[i].replaceFirst("\\S.*", "") + "}";
            int j = i;
            while (j < lines.length && !lines[j].equals(close)) j++;
            must(j - i <= 60, "too long: " + lines[i]);
        }
        must(starts.size() > FACE.length, "methods were not seen");
    }
}
