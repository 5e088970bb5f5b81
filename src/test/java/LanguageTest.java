import java.lang.reflect.Constructor;
import java.lang.reflect.Field;
import java.lang.reflect.Method;
import java.lang.reflect.Modifier;
import java.nio.file.Files;
import java.nio.file.Path;
import java.util.Set;
import java.util.TreeSet;
import java.util.regex.Matcher;
import java.util.regex.Pattern;

/** The rules of LANGUAGE.md that can be seen without reading: the face, words that may not stand, sizes. */
public final class LanguageTest {
    private static final String FACE = "back(int) best(int) clear() count(int) either(int) forget() keep(int) line(int,int) "
            + "look() lays(int) mark(int,int) moves(int,int) now(int) odds(int) orders(int) page() place(int) reads(int,int) "
            + "sees(int,int) sign(int,int,int) strip(int,int) swaps(int,int) takes(int) trace() turn(int) type(int) undo() "
            + "which() word(int,int)";
    private static final String FORBIDDEN = "\\b(throw|throws|try|catch|synchronized|assert|package|Object|System\\.(?!arraycopy)"
            + "|Thread|hashCode|toString|\\w+Exact|var)\\b|->|::|@";
    private static int wrong = 0;

    private static void must(boolean holds, String what) {
        if (!holds) {
            wrong++;
            System.out.println("not so: " + what);
        }
    }

    private static String told(Method m) {
        StringBuilder text = new StringBuilder(m.getName()).append("(");
        for (int k = 0; k < m.getParameterCount(); k++) text.append(k == 0 ? "" : ",").append(m.getParameterTypes()[k]);
        return text.append(")").toString();
    }

    private static void face() {
        Class<?> c = StripPage.class;
        Set<String> methods = new TreeSet<>();
        Set<String> names = new TreeSet<>();
        for (Method m : c.getDeclaredMethods()) {
            if (Modifier.isPublic(m.getModifiers())) {
                methods.add(told(m));
                names.add(m.getName());
                must(m.getReturnType() == (m.getName().equals("trace") ? long.class : int.class), "answer of " + m);
            } else {
                must(Modifier.isPrivate(m.getModifiers()), "private: " + m);
            }
        }
        must(methods.equals(new TreeSet<>(Set.of(FACE.split(" ")))), "the face, not " + methods);
        must(Modifier.isFinal(c.getModifiers()) && Modifier.isPublic(c.getModifiers()), "public final class");
        Constructor<?>[] made = c.getDeclaredConstructors();
        must(made.length == 1 && made[0].getParameterCount() == 0 && Modifier.isPublic(made[0].getModifiers()), "one constructor");
        Set<String> constants = new TreeSet<>();
        for (Field f : c.getDeclaredFields()) {
            if (Modifier.isPublic(f.getModifiers())) constants.add(f.getName());
            else must(Modifier.isPrivate(f.getModifiers()), "private: " + f);
        }
        must(constants.equals(new TreeSet<>(Set.of("BAD", "STATE", "FULL", "NONE", "NO"))), "the constants, not " + constants);
        inside(c, names);
    }

    private static void inside(Class<?> c, Set<String> names) {
        must(c.getDeclaredClasses().length < 12, "twelve classes at most");
        fields(c);
        for (Class<?> n : c.getDeclaredClasses()) {
            must(Modifier.isStatic(n.getModifiers()) && !Modifier.isPublic(n.getModifiers()), "static, not public: " + n);
            fields(n);
            for (Method m : n.getDeclaredMethods()) {
                must(m.getParameterCount() <= 7, "seven parameters at most: " + m);
                must(!names.contains(m.getName()), "no name of a public method: " + m);
            }
        }
    }

    private static void fields(Class<?> c) {
        int fields = 0;
        for (Field f : c.getDeclaredFields()) {
            if (!Modifier.isStatic(f.getModifiers())) fields++;
            else must(Modifier.isFinal(f.getModifiers()), "final: " + f);
        }
        must(fields <= 20, "twenty fields at most: " + c);
    }

    private static void source() throws Exception {
        String text = Files.readString(Path.of("src/main/java/StripPage.java"));
        must(text.chars().allMatch(c -> c < 128), "signs 1 to 127");
        String code = text.replaceAll("(?s)/\\*.*?\\*/", "").replaceAll("//[^\n]*", "");
        Matcher forbidden = Pattern.compile(FORBIDDEN).matcher(code);
        while (forbidden.find()) must(false, "no " + forbidden.group());
        Matcher imports = Pattern.compile("import ([^;]*);").matcher(code);
        while (imports.find()) must(imports.group(1).equals("java.util.Arrays"), "no import of " + imports.group(1));
        // What is made by a call would be counted with each call: fields and one constructor alone make something.
        for (String line : code.split("\n")) {
            boolean field = line.matches(" {4,8}(private |final )+[\\w\\[\\]]+ \\w+ = new [^;]*;");
            must(!line.matches(".*\\bnew\\b.*") || field || line.trim().equals("past[k] = new Row();"), "made by no call: " + line.trim());
        }
        int length = 0;
        for (String line : text.split("\n")) {
            length = line.matches(" {4,8}(public|private|final|static|abstract|int|long|boolean|void)?.*\\) \\{") ? 0 : length + 1;
            must(length <= 60 || !line.matches(" {4,8}\\}"), "sixty lines a method at most");
        }
    }

    public static void main(String[] args) throws Exception {
        face();
        source();
        System.out.println(wrong == 0 ? "the rules are kept" : wrong + " rules are not kept");
        if (wrong != 0) System.exit(1);
    }
}
