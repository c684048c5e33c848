import java.io.IOException;
import java.lang.reflect.Constructor;
import java.lang.reflect.Field;
import java.lang.reflect.Method;
import java.lang.reflect.Modifier;
import java.nio.file.Files;
import java.nio.file.Path;
import java.util.List;
import java.util.Set;
import java.util.TreeSet;

/** The document's face, and the rules of LANGUAGE.md that can be seen from outside or line by line. */
final class LanguageTest {
    private static final Set<String> FACE = Set.of(
            "public LongModeCore()",
            "public static final int LongModeCore.NONE",
            "public boolean LongModeCore.store(int,int,int)",
            "public long LongModeCore.stored(int)",
            "public boolean LongModeCore.set(int,int,int)",
            "public long LongModeCore.get(int)",
            "public void LongModeCore.level(boolean)",
            "public int LongModeCore.step()",
            "public int LongModeCore.run(int)",
            "public long LongModeCore.look(int,int,int)");

    public static void main(String[] args) throws IOException {
        face();
        classesInside();
        List<String> lines = Files.readAllLines(Path.of("src/main/java/LongModeCore.java"));
        forbiddenWords(lines);
        lengths(lines);
        Bench.finish("LanguageTest");
    }

    private static void face() {
        Set<String> seen = new TreeSet<>();
        for (Method method : LongModeCore.class.getDeclaredMethods()) {
            boolean isPrivate = Modifier.isPrivate(method.getModifiers());
            if (!isPrivate) {
                seen.add(method.toString());
            }
        }
        for (Field field : LongModeCore.class.getDeclaredFields()) {
            if (!Modifier.isPrivate(field.getModifiers())) {
                seen.add(field.toString());
            }
        }
        for (Constructor<?> constructor : LongModeCore.class.getDeclaredConstructors()) {
            seen.add(constructor.toString());
        }
        Bench.due("the face " + seen, seen.equals(new TreeSet<>(FACE)) ? 1 : 0, 1);
        Bench.due("final", Modifier.isFinal(LongModeCore.class.getModifiers()) ? 1 : 0, 1);
    }

    private static void classesInside() {
        Class<?>[] inside = LongModeCore.class.getDeclaredClasses();
        Bench.due("few classes", inside.length < 12 ? 1 : 0, 1);
        for (Class<?> one : inside) {
            int modifiers = one.getModifiers();
            boolean hidden = !Modifier.isPublic(modifiers) && !Modifier.isProtected(modifiers);
            Bench.due(one + " is static and hidden", hidden && Modifier.isStatic(modifiers) ? 1 : 0, 1);
            int fields = 0;
            for (Field field : one.getDeclaredFields()) {
                boolean isStatic = Modifier.isStatic(field.getModifiers());
                fields += isStatic ? 0 : 1;
                Bench.due(field + " is final", !isStatic || Modifier.isFinal(field.getModifiers()) ? 1 : 0, 1);
            }
            Bench.due(one + " has few fields", fields <= 20 ? 1 : 0, 1);
            for (Method method : one.getDeclaredMethods()) {
                Bench.due(method + " takes few", method.getParameterCount() <= 7 ? 1 : 0, 1);
            }
        }
    }

    private static void forbiddenWords(List<String> lines) {
        String[] words = {"package", "import", "throw", "try", "catch", "synchronized", "assert", "System", "Thread",
            "hashCode", "toString", "equals"};
        for (String line : lines) {
            String code = line.replaceAll("//.*", "").replaceAll("^\\s*/?\\*.*", "");
            for (String word : words) {
                Bench.due(word + " in: " + line, code.matches(".*\\b" + word + "\\b.*") ? 1 : 0, 0);
            }
            Bench.due("a lambda in: " + line, code.contains("->") || code.contains("::") ? 1 : 0, 0);
        }
    }

    private static void lengths(List<String> lines) {
        int start = 0;
        for (int i = 0; i < lines.size(); i++) {
            String line = lines.get(i);
            int indent = line.length() - line.stripLeading().length();
            if (indent <= 8 && line.endsWith(") {")) {
                start = i;
            }
            if (indent <= 8 && line.strip().equals("}")) {
                Bench.due("lines up to " + (i + 1), start > 0 && i - start > 60 && indent == 8 ? 1 : 0, 0);
            }
        }
    }
}
