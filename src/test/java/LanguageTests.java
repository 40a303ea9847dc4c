import java.io.IOException;
import java.lang.reflect.Constructor;
import java.lang.reflect.Field;
import java.lang.reflect.Member;
import java.lang.reflect.Method;
import java.lang.reflect.Modifier;
import java.nio.file.Files;
import java.nio.file.Path;
import java.util.ArrayList;
import java.util.Arrays;
import java.util.List;
import java.util.Set;
import java.util.TreeSet;
import java.util.regex.Matcher;
import java.util.regex.Pattern;
import java.util.stream.Collectors;

/** The rules of LANGUAGE.md, as far as they can be looked up in the source and in the class. */
final class LanguageTests {
    private static final List<String> FACE = List.of(
            "int road(int,int)", "int rule(int)", "int sight(int)", "int child(int,int,int,int,int)",
            "int stand(int,int)", "int bed(int,int)", "int undo()", "int type(int)", "int clear()", "int read()",
            "int of(int,int,int)", "int limit(int,int,int)", "int where(int,int)", "int there(int)",
            "int soonest(int)", "int start(int)", "int speed(int)", "int stop()", "int fined(int,int)",
            "int toBed(int,int,int)", "int move(int)", "int carters(int,int)", "int reading(int,int,int)",
            "int forget()", "int out(int)", "int look(int)", "int dolls()", "int days(int,int,int)",
            "long part(int)", "int image(int)", "int from(int)", "int status(int)", "int count(int)", "long digest()");
    private static final Set<String> CONSTANTS = Set.of("NONE", "BAD", "NO", "FULL");
    private static final List<String> FORBIDDEN = List.of(
            "throw", "throws", "try", "catch", "finally", "synchronized", "assert", "import", "package", "native",
            "volatile", "transient", "Object", "hashCode", "equals", "toString", "yield", "var");
    private static final Set<String> LIBRARY = Set.of(
            "Math.min", "Math.max", "Math.abs", "Integer.bitCount", "Long.bitCount", "System.arraycopy");

    private LanguageTests() {
    }

    static void run(Path source) {
        face();
        for (Class<?> c : classes()) {
            shape(c);
        }
        Check.that("rule 11: some twelve classes at most", classes().size() <= 12);
        try {
            source(Files.readString(source));
        } catch (IOException e) {
            Check.that("the source can be read: " + e, false);
        }
    }

    private static List<Class<?>> classes() {
        List<Class<?>> all = new ArrayList<>(List.of(SmallestSpeed.class));
        all.addAll(Arrays.asList(SmallestSpeed.class.getDeclaredClasses()));
        return all;
    }

    private static void face() {
        Class<?> c = SmallestSpeed.class;
        Check.that("rule 1: public and final", Modifier.isPublic(c.getModifiers()) && Modifier.isFinal(c.getModifiers()));
        Constructor<?>[] constructors = c.getDeclaredConstructors();
        Check.that("rule 1: one public constructor without arguments", constructors.length == 1
                && Modifier.isPublic(constructors[0].getModifiers()) && constructors[0].getParameterCount() == 0);
        Set<String> open = new TreeSet<>();
        Set<String> openNames = new TreeSet<>();
        for (Method m : c.getDeclaredMethods()) {
            if (!Modifier.isPrivate(m.getModifiers())) {
                open.add(signature(m));
                openNames.add(m.getName());
                Check.that("public: " + m, Modifier.isPublic(m.getModifiers()) && !Modifier.isStatic(m.getModifiers()));
            }
        }
        Check.that("rule 1: the methods of the face", open.equals(new TreeSet<>(FACE)));
        for (Class<?> any : classes()) {
            for (Method m : any.getDeclaredMethods()) {
                boolean own = any == c && Modifier.isPublic(m.getModifiers());
                Check.that("rule 1: no other method is named " + m.getName(), own || !openNames.contains(m.getName()));
            }
        }
        for (Field f : c.getDeclaredFields()) {
            boolean constant = CONSTANTS.contains(f.getName());
            int modifiers = f.getModifiers();
            Check.that("rule 1: " + f, constant ? Modifier.isPublic(modifiers) : Modifier.isPrivate(modifiers));
        }
    }

    private static String signature(Method m) {
        String types = Arrays.stream(m.getParameterTypes()).map(Class::getName).collect(Collectors.joining(","));
        return m.getReturnType().getName() + " " + m.getName() + "(" + types + ")";
    }

    private static void shape(Class<?> c) {
        Check.that("rule 2: " + c + " is static", c == SmallestSpeed.class || Modifier.isStatic(c.getModifiers()));
        Check.that("rule 2: no class in " + c, c == SmallestSpeed.class || c.getDeclaredClasses().length == 0);
        int fields = 0;
        for (Field f : c.getDeclaredFields()) {
            boolean isStatic = Modifier.isStatic(f.getModifiers());
            fields += isStatic ? 0 : 1;
            Check.that("rule 5: final " + f, !isStatic || Modifier.isFinal(f.getModifiers()));
        }
        Check.that("rule 11: some twenty fields at most in " + c, fields <= 20);
        List<Member> called = new ArrayList<>(Arrays.asList(c.getDeclaredMethods()));
        for (Member m : called) {
            Check.that("rule 11: seven parameters at most: " + m, ((Method) m).getParameterCount() <= 7);
            Check.that("written by hand: " + m, !m.isSynthetic());
        }
    }

    private static void source(String text) {
        String bare = withoutTexts(text);
        for (String word : FORBIDDEN) {
            Check.that("the word " + word, !Pattern.compile("\\b" + word + "\\b").matcher(bare).find());
        }
        for (String sign : List.of("->", "::", "@", "float", "double")) {
            Check.that("the sign " + sign, !bare.contains(sign));
        }
        Matcher library = Pattern.compile("\\b(Math|Integer|Long|System|Arrays|String|List)\\.\\w+").matcher(bare);
        while (library.find()) {
            Check.that("rule 4: " + library.group(), LIBRARY.contains(library.group()));
        }
        for (String line : bare.split("\n")) {
            Check.that("rule 12: only an object's parts are made: " + line.strip(),
                    !line.contains("new ") || line.strip().matches("(private )?final .* = new .*;"));
        }
        for (char c : text.toCharArray()) {
            if (c > 126) {
                Check.that("a sign beyond 126: " + (int) c, false);
            }
        }
        methodLengths(bare);
    }

    /** Comments and what stands between quotes give way to blanks. */
    private static String withoutTexts(String text) {
        Pattern texts = Pattern.compile("/\\*.*?\\*/|//[^\\n]*|\"[^\"\\n]*\"|'[^'\\n]'", Pattern.DOTALL);
        return texts.matcher(text).replaceAll(m -> m.group().replaceAll("[^\\n]", " "));
    }

    /** Methods begin at the class's indent and four more: 4 for the public class, 8 for those inside. */
    private static void methodLengths(String bare) {
        String indent = " ".repeat(4);
        String head = "";
        int begun = -1;
        int methods = 0;
        String[] lines = bare.split("\n");
        for (int i = 0; i < lines.length; i++) {
            if (lines[i].matches(" {4}private static .*class .*\\{")) {
                indent = " ".repeat(8);
            } else if (lines[i].matches(indent + "\\w.*\\{")) {
                begun = i;
                head = lines[i].strip();
            } else if (begun >= 0 && lines[i].equals(indent + "}")) {
                Check.that("rule 11: sixty lines at most: " + head, i - begun < 60);
                methods++;
                begun = -1;
            }
        }
        Check.that("methods are found", methods > 80);
    }
}
