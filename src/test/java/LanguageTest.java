import java.lang.reflect.Constructor;
import java.lang.reflect.Field;
import java.lang.reflect.Member;
import java.lang.reflect.Method;
import java.lang.reflect.Modifier;
import java.nio.charset.StandardCharsets;
import java.nio.file.Files;
import java.nio.file.Path;
import java.util.Set;
import java.util.TreeSet;
import java.util.regex.Pattern;

/** Looks at the program's source and classes for what ../shared/LANGUAGE.md rules out, as far as that shows. */
public final class LanguageTest {
    private static final Check c = new Check();
    private static final Set<String> FACE = new TreeSet<>(Set.of("one/3", "of/2", "set/3", "leave/2", "walls/1", "row/3", "feed/1",
        "statute/0", "told/1", "deed/1"));

    static {
        FACE.addAll(Set.of("pass/1", "at/2", "share/2", "see/3", "wrong/0", "from/1", "can/2", "odds/2", "mean/1", "plan/2"));
        FACE.addAll(Set.of("ends/1", "book/2", "looked/0", "judge/2", "image/0", "undo/0", "act/3", "trace/1", "taken/2", "count/1"));
        FACE.addAll(Set.of("tape/3", "item/3", "read/2", "shift/5"));
    }

    public static void main(String[] args) throws Exception {
        face();
        classesInside();
        source(new String(Files.readAllBytes(Path.of("src/main/java/WitnessPays.java")), StandardCharsets.ISO_8859_1));
        c.end("LanguageTest");
    }

    private static void face() {
        Set<String> seen = new TreeSet<>();
        for (Method m : WitnessPays.class.getDeclaredMethods()) {
            if (Modifier.isPublic(m.getModifiers())) {
                seen.add(m.getName() + "/" + m.getParameterCount());
                boolean isLong = Set.of("odds", "mean", "read").contains(m.getName());
                c.holds("the type of " + m, m.getReturnType() == (isLong ? long.class : int.class));
            } else {
                notVisible(m);
            }
        }
        c.holds("the public methods are " + seen, seen.equals(FACE));
        Set<String> constants = new TreeSet<>();
        for (Field f : WitnessPays.class.getDeclaredFields()) {
            if (Modifier.isPublic(f.getModifiers())) {
                constants.add(f.getName());
            } else {
                notVisible(f);
            }
        }
        c.holds("the constants are " + constants, constants.equals(new TreeSet<>(Set.of("NONE", "BAD", "STATE", "FULL", "NO"))));
        Constructor<?>[] made = WitnessPays.class.getDeclaredConstructors();
        c.due("constructors", made.length, 1);
        c.holds("is final", Modifier.isFinal(WitnessPays.class.getModifiers()));
    }

    private static void notVisible(Member m) {
        c.holds(m + " is private", Modifier.isPrivate(m.getModifiers()));
        c.holds(m + " bears no public name", !(m instanceof Method) || !isPublicName(m.getName()));
    }

    private static boolean isPublicName(String name) {
        for (String known : FACE) {
            if (known.startsWith(name + "/")) {
                return true;
            }
        }
        return false;
    }

    private static void classesInside() {
        Class<?>[] inside = WitnessPays.class.getDeclaredClasses();
        c.holds("some twelve classes at most", inside.length + 1 <= 12);
        for (Class<?> type : inside) {
            c.holds(type + " is static", Modifier.isStatic(type.getModifiers()));
            c.holds(type + " is not public", !Modifier.isPublic(type.getModifiers()));
            int fields = 0;
            for (Field f : type.getDeclaredFields()) {
                fields += Modifier.isStatic(f.getModifiers()) ? 0 : 1;
                c.holds(f + " is final, if static", !Modifier.isStatic(f.getModifiers()) || Modifier.isFinal(f.getModifiers()));
            }
            c.holds(type + " has some twenty fields at most", fields <= 20);
            for (Method m : type.getDeclaredMethods()) {
                c.holds(m + " bears no public name", !isPublicName(m.getName()));
                c.holds(m + " has seven parameters at most", m.getParameterCount() <= 7);
            }
        }
    }

    private static void source(String whole) {
        for (int i = 0; i < whole.length(); i++) {
            char sign = whole.charAt(i);
            if (sign > 126 || sign < 32 && sign != '\n') {
                c.due("sign at " + i, sign, ' ');
            }
        }
        String code = whole.replaceAll("(?s)/\\*.*?\\*/", "").replaceAll("//[^\n]*", "").replaceAll("\"[^\"\n]*\"", "\"\"");
        for (String word : new String[] {"throw", "throws", "try", "catch", "finally", "synchronized", "assert", "import", "package",
            "Object", "System\\.out", "Exception", "volatile", "transient", "native", "var", "yield", "hashCode", "toString", "Exact"}) {
            c.holds("no " + word, !Pattern.compile("\\b" + word + "\\b").matcher(code).find());
        }
        for (String sign : new String[] {"->", "::", "@"}) {
            c.holds("no " + sign, !code.contains(sign));
        }
        methodsAreShort(code);
    }

    private static void methodsAreShort(String code) {
        String[] lines = code.split("\n");
        for (int i = 0; i < lines.length; i++) {
            if (!lines[i].matches(" {4,8}[a-zA-Z].*\\) \\{") || lines[i].matches(".*\\b(class|if|for|while|switch)\\b.*")) {
                continue;
            }
            String indent = lines[i].replaceAll("\\S.*", "");
            int end = i;
            while (end < lines.length && !lines[end].equals(indent + "}")) {
                end++;
            }
            c.holds("short: " + lines[i].trim() + " has " + (end - i + 1) + " lines", end - i + 1 <= 60);
        }
    }
}
