import java.io.IOException;
import java.lang.reflect.Constructor;
import java.lang.reflect.Field;
import java.lang.reflect.Method;
import java.lang.reflect.Modifier;
import java.nio.file.Files;
import java.nio.file.Path;
import java.util.ArrayList;
import java.util.List;
import java.util.Set;
import java.util.TreeSet;

/** Those rules of LANGUAGE.md that can be seen from the text of the program or from its classes. */
public final class LanguageTest {
    private static final Check CHECK = new Check("LanguageTest");
    private static final String[] NOT_THERE = {"throw", "try", "catch", "synchronized", "assert", "yield", "volatile",
        "transient", "native", "null", "System.out", "->", "::", "String ", "Math.random", "Thread", "Object",
        "Exact(", "@", "\"", "hashCode", "toString", "equals"};
    private static final String[] FACE = {"int feed(int,int,int,int,int)", "int end(int)", "int name(int)",
        "int begin(int,int,int)", "void deliver(int)", "void lose(int)", "void twice(int)", "int stir(int,int)",
        "int tick(int)", "boolean crash(int,int,int)", "boolean restart(int)", "int map(int)", "boolean replace(int)",
        "int settle()", "int answer(int)", "int told(int,int)", "int file(int,int)", "int where(int,int,int)",
        "int onDisk(int,int,int,int)", "int holds(int)", "int audit()", "int count(int)"};

    public static void main(String[] args) throws IOException {
        List<String> lines = Files.readAllLines(Path.of("src/main/java/StripedStore.java"));
        List<String> code = withoutComments(lines);
        words(code);
        objectsAreMadeAtFirst(code);
        methodsAreShort(code);
        face();
        classes();
        CHECK.end();
    }

    private static List<String> withoutComments(List<String> lines) {
        List<String> code = new ArrayList<>();
        for (String line : lines) {
            String bare = line.strip();
            boolean comment = bare.startsWith("/**") || bare.startsWith("*") || bare.startsWith("//");
            code.add(comment ? "" : line);
        }
        return code;
    }

    private static void words(List<String> code) {
        for (int i = 0; i < code.size(); i++) {
            String line = code.get(i);
            for (String word : NOT_THERE) {
                CHECK.due("line " + (i + 1) + " has " + word, line.contains(word), false);
            }
            if (line.startsWith("import") || line.startsWith("package")) {
                CHECK.due("line " + (i + 1), line.equals("import java.util.Arrays;"), true);
            }
            CHECK.due("line " + (i + 1) + " is long", line.length() > 120, false);
        }
    }

    /** Objects and arrays are made by fields and constructors alone: no method with a return type makes one. */
    private static void objectsAreMadeAtFirst(List<String> code) {
        boolean inMethod = false;
        for (int i = 0; i < code.size(); i++) {
            String line = code.get(i);
            if (line.contains(" class ")) {
                inMethod = false;
            }
            if (line.endsWith(") {") && line.matches(" {4,8}[a-zA-Z].*")) {
                inMethod = line.matches(" +((public|private|static) )*(int|boolean|void|Message) \\w+\\(.*");
            }
            CHECK.due("line " + (i + 1) + " makes an object", inMethod && line.contains("new "), false);
        }
    }

    private static void methodsAreShort(List<String> code) {
        for (int i = 0; i < code.size(); i++) {
            String indent = code.get(i).replaceAll("\\S.*", "");
            if (code.get(i).endsWith(") {") && (indent.length() == 4 || indent.length() == 8)) {
                int end = i;
                while (!code.get(end).equals(indent + "}")) {
                    end++;
                }
                CHECK.due("line " + (i + 1) + " begins a long method", end - i > 60, false);
            }
        }
    }

    private static void face() {
        Set<String> due = new TreeSet<>(List.of(FACE));
        Set<String> found = new TreeSet<>();
        Set<String> hidden = new TreeSet<>();
        for (Method m : StripedStore.class.getDeclaredMethods()) {
            String text = m.getReturnType().getSimpleName() + " " + m.getName() + "(";
            for (int i = 0; i < m.getParameterCount(); i++) {
                text += (i > 0 ? "," : "") + m.getParameterTypes()[i].getSimpleName();
            }
            if (Modifier.isPublic(m.getModifiers())) {
                found.add(text + ")");
            } else {
                CHECK.due(m + " is private", Modifier.isPrivate(m.getModifiers()), true);
                hidden.add(m.getName());
            }
        }
        CHECK.due("the methods are " + found, found.equals(due), true);
        for (Class<?> c : StripedStore.class.getDeclaredClasses()) {
            for (Method m : c.getDeclaredMethods()) {
                hidden.add(m.getName());
            }
        }
        for (String method : FACE) {
            String name = method.substring(method.indexOf(' ') + 1, method.indexOf('('));
            CHECK.due("another method is called " + name, hidden.contains(name), false);
        }
        Constructor<?>[] made = StripedStore.class.getDeclaredConstructors();
        CHECK.due("constructors", made.length == 1 && made[0].getParameterCount() == 3, true);
        int constants = 0;
        for (Field f : StripedStore.class.getDeclaredFields()) {
            constants += Modifier.isPublic(f.getModifiers()) ? 1 : 0;
            CHECK.due(f + " is private or a constant", Modifier.isPrivate(f.getModifiers())
                || Modifier.isStatic(f.getModifiers()) && Modifier.isFinal(f.getModifiers()), true);
        }
        CHECK.due("constants", constants, 7);
    }

    private static void classes() {
        Class<?>[] inside = StripedStore.class.getDeclaredClasses();
        CHECK.due("classes", inside.length <= 11, true);
        CHECK.due("final", Modifier.isFinal(StripedStore.class.getModifiers()), true);
        for (Class<?> c : inside) {
            CHECK.due(c + " is static", Modifier.isStatic(c.getModifiers()), true);
            CHECK.due(c + " is not public", Modifier.isPublic(c.getModifiers()), false);
            int fields = 0;
            for (Field f : c.getDeclaredFields()) {
                boolean constant = Modifier.isStatic(f.getModifiers());
                CHECK.due(f + " is final", !constant || Modifier.isFinal(f.getModifiers()), true);
                fields += constant ? 0 : 1;
            }
            CHECK.due("fields of " + c, fields <= 20, true);
            for (Method m : c.getDeclaredMethods()) {
                CHECK.due("parameters of " + m, m.getParameterCount() <= 7, true);
            }
        }
    }
}
