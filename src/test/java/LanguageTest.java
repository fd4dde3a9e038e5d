import java.io.IOException;
import java.lang.reflect.Constructor;
import java.lang.reflect.Field;
import java.lang.reflect.Method;
import java.lang.reflect.Modifier;
import java.nio.file.Files;
import java.nio.file.Path;
import java.util.Arrays;
import java.util.List;
import java.util.Set;
import java.util.TreeSet;
import java.util.regex.Matcher;
import java.util.regex.Pattern;
import java.util.stream.Collectors;

/** The rules of ../shared/LANGUAGE.md that can be read off the source or the compiled class; run in the project's folder. */
public final class LanguageTest {
    private static final Due due = new Due("LanguageTest");
    private static final Path DOC = Path.of("../shared/DOC.md");
    private static final Path SOURCE = Path.of("src/main/java/AnswerPass.java");
    private static final String[] FORBIDDEN = {
        "\\bthrow\\b", "\\bthrows\\b", "\\btry\\b", "\\bcatch\\b", "\\bsynchronized\\b", "\\bassert\\b", "\\bimport\\b", "\\bpackage\\b", "->", "::",
        "\\bvar\\b", "\\w+Exact\\b", "\\bSystem\\.(?!arraycopy\\b)", "\\bvolatile\\b", "\\bnative\\b", "static \\{", "\\bhashCode\\b",
        "\\btoString\\b", "\\bThread\\b", "\\bwhile \\(true\\)", "for \\(;;\\)",
    };

    private LanguageTest() {
    }

    public static void main(String[] args) throws IOException {
        face();
        inside();
        source();
        due.close();
    }

    private static String signature(Method m) {
        String types = Arrays.stream(m.getParameterTypes()).map(Class::getSimpleName).collect(Collectors.joining(","));
        return m.getReturnType().getSimpleName() + " " + m.getName() + "(" + types + ")";
    }

    private static void face() throws IOException {
        Set<String> promised = new TreeSet<>();
        String doc = Files.readString(DOC);
        Matcher face = Pattern.compile("    public (int) (\\w+)\\(([^)]*)\\);").matcher(doc);
        while (face.find()) {
            String types = Arrays.stream(face.group(3).split(", ")).map(p -> p.split(" ")[0]).collect(Collectors.joining(","));
            promised.add("int " + face.group(2) + "(" + types + ")");
        }
        Set<String> there = new TreeSet<>();
        for (Method m : AnswerPass.class.getDeclaredMethods()) {
            due.holds(Modifier.isPublic(m.getModifiers()) || Modifier.isPrivate(m.getModifiers()), m + " is public or private");
            if (Modifier.isPublic(m.getModifiers())) {
                there.add(signature(m));
            }
        }
        due.is(35, promised.size(), "the calls of the face");
        due.holds(promised.equals(there), "the face is the document's: " + there);
        for (Field f : AnswerPass.class.getDeclaredFields()) {
            due.holds(Modifier.isPrivate(f.getModifiers()), f + " is private");
        }
        Constructor<?>[] made = AnswerPass.class.getDeclaredConstructors();
        due.holds(made.length == 1 && made[0].getParameterCount() == 0 && Modifier.isPublic(made[0].getModifiers()), "one public constructor");
        due.holds(Modifier.isFinal(AnswerPass.class.getModifiers()), "the class is final");
    }

    private static void inside() {
        Class<?>[] inner = AnswerPass.class.getDeclaredClasses();
        due.holds(inner.length < 12, "some twelve classes");
        List<String> face = Arrays.stream(AnswerPass.class.getMethods()).map(Method::getName).toList();
        for (Class<?> c : inner) {
            due.holds(Modifier.isStatic(c.getModifiers()), c + " is static");
            due.holds(!Modifier.isPublic(c.getModifiers()) && !Modifier.isProtected(c.getModifiers()), c + " is not public or protected");
            for (Method m : c.getDeclaredMethods()) {
                due.holds(!face.contains(m.getName()), m + " bears no name of the face");
            }
            looksAtMembers(c);
        }
        for (Method m : AnswerPass.class.getDeclaredMethods()) {
            due.holds(Modifier.isPublic(m.getModifiers()) || !face.contains(m.getName()), m + " bears no name of the face");
        }
        looksAtMembers(AnswerPass.class);
    }

    private static void looksAtMembers(Class<?> c) {
        int fields = 0;
        for (Field f : c.getDeclaredFields()) {
            boolean isStatic = Modifier.isStatic(f.getModifiers());
            due.holds(!isStatic || Modifier.isFinal(f.getModifiers()), f + " is final if static");
            fields += isStatic ? 0 : 1;
        }
        due.holds(fields <= 20, c + " has some twenty fields at most");
        for (Method m : c.getDeclaredMethods()) {
            due.holds(m.getParameterCount() <= 7, m + " takes seven parameters at most");
        }
    }

    private static void source() throws IOException {
        String text = Files.readString(SOURCE);
        String code = text.replaceAll("(?s)/\\*.*?\\*/", "").replaceAll("//.*", "");
        for (String word : FORBIDDEN) {
            due.holds(!Pattern.compile(word).matcher(code).find(), "no " + word);
        }
        due.holds(text.chars().allMatch(c -> c < 128), "signs are 1 to 127");
        due.holds(!Pattern.compile("\"[^\"]*\" \\+|\\+ \"").matcher(code).find(), "no texts joined by +");
        int lines = 0;
        for (String line : text.split("\n")) {
            lines = line.matches("( {4}| {8})\\S.*\\) \\{") ? 1 : lines + 1;
            due.holds(lines <= 60 || !line.matches("( {4}| {8})\\}"), "a method of some sixty lines: " + line);
        }
    }
}
