import java.io.IOException;
import java.lang.reflect.Field;
import java.lang.reflect.Method;
import java.lang.reflect.Modifier;
import java.nio.file.Files;
import java.nio.file.Path;
import java.util.ArrayList;
import java.util.HashSet;
import java.util.List;
import java.util.Set;
import java.util.regex.Pattern;

/** The program keeps to the rules of LANGUAGE.md, as far as its text or the compiled class shows it. */
public final class LanguageTest {
    private static final Path PROGRAM = Path.of("src/main/java/ChainLoader.java");
    private static final Set<String> IMPORTS =
        Set.of("import java.util.Arrays;", "import java.util.NoSuchElementException;");
    private static final String[] LEFT_OUT = {
        "\\btry\\b", "\\bcatch\\b", "\\bfinally\\b", "\\bsynchronized\\b", "\\bassert\\b", "->", "::", "static \\{",
        "\\bhashCode\\b", "\\btoString\\b", "Exact\\(", "\\bpackage\\b", "System\\.(?!arraycopy\\()", "\\bThread\\b",
        "Math\\.(?!min\\(|max\\()", "Arrays\\.(?!fill\\()"
    };

    public static void main(String[] args) throws IOException {
        List<Class<?>> classes = new ArrayList<>(List.of(ChainLoader.class.getDeclaredClasses()));
        for (Class<?> c : classes) {
            due("rule 1: " + c + " is private and static", c.getModifiers(),
                Modifier.PRIVATE | Modifier.STATIC | Modifier.FINAL);
            due("rule 1: classes inside " + c, c.getDeclaredClasses().length, 0);
        }
        classes.add(ChainLoader.class);
        dueAtMost("rule 11: classes", classes.size(), 12);
        for (Class<?> c : classes) {
            methods(c);
            fields(c);
        }
        text(Files.readString(PROGRAM));
        methodLines(Files.readAllLines(PROGRAM));
        Probe.finish();
    }

    private static void due(String what, long got, long want) {
        Probe.due("LANGUAGE.md", what, got, want);
    }

    private static void dueAtMost(String what, int got, int most) {
        due(what + ", more than " + most, got > most ? got : 0, 0);
    }

    private static void methods(Class<?> c) {
        Set<String> face = new HashSet<>();
        for (Method m : ChainLoader.class.getMethods()) {
            face.add(m.getName());
        }
        for (Method m : c.getDeclaredMethods()) {
            boolean ofTheFace = Modifier.isPublic(m.getModifiers());
            due("rule 1: " + m + " bears a name of the face", !ofTheFace && face.contains(m.getName()) ? 1 : 0, 0);
            dueAtMost("rule 11: parameters of " + m, m.getParameterCount(), 7);
        }
    }

    private static void fields(Class<?> c) {
        int ofAnObject = 0;
        for (Field f : c.getDeclaredFields()) {
            Class<?> type = f.getType();
            if (Modifier.isStatic(f.getModifiers())) {
                due("rule 5: " + f + " is final", Modifier.isFinal(f.getModifiers()) ? 1 : 0, 1);
                due("rule 5: " + f + " is a number", type == int.class || type == long.class ? 1 : 0, 1);
            } else {
                ofAnObject++;
                boolean rowOfNumbers = type.isArray() && type.getComponentType().isPrimitive();
                boolean own = type.getNestHost() == ChainLoader.class;
                due("rule 3: the type of " + f, type.isPrimitive() || rowOfNumbers || own ? 1 : 0, 1);
            }
        }
        dueAtMost("rule 11: fields of " + c, ofAnObject, 20);
    }

    private static void text(String program) {
        for (String line : program.split("\n")) {
            due("rule 4: " + line, line.startsWith("import ") && !IMPORTS.contains(line) ? 1 : 0, 0);
            boolean otherThrow = line.contains("throw ") && !line.contains("throw new NoSuchElementException()");
            due("rule 6: " + line.strip(), otherThrow ? 1 : 0, 0);
        }
        String code = program.replaceAll("import [^\n]*|//[^\n]*|/\\*[\\s\\S]*?\\*/", "");
        for (String word : LEFT_OUT) {
            boolean found = Pattern.compile(word).matcher(code).find();
            due("rules 2, 4, 6, 13: has " + word, found ? 1 : 0, 0);
        }
    }

    /** A method ends at the brace that stands as deep as its first line. */
    private static void methodLines(List<String> lines) {
        for (int begin = 0; begin < lines.size(); begin++) {
            String head = lines.get(begin);
            if (head.matches(" {4,8}[a-zA-Z].*\\).*\\{")) {
                String close = head.substring(0, head.indexOf(head.strip())) + "}";
                int end = begin;
                while (end < lines.size() && !lines.get(end).equals(close)) {
                    end++;
                }
                dueAtMost("rule 11: lines of" + head, end - begin + 1, 60);
            }
        }
    }
}
