import java.io.IOException;
import java.lang.reflect.Method;
import java.lang.reflect.Modifier;
import java.nio.file.Files;
import java.nio.file.Path;
import java.util.ArrayList;
import java.util.List;
import java.util.regex.Matcher;
import java.util.regex.Pattern;
import java.util.stream.Stream;

/** The example of README.md answers as its comments say, and README.md names every call and every test. */
public final class ReadmeTest {
    public static void main(String[] args) throws IOException {
        example();
        String readme = Files.readString(Path.of("README.md"));
        everyCallIsNamed(readme);
        everyTestIsNamed(readme);
        exampleIsThatOfTheReadme(readme);
        Probe.finish();
    }

    private static void due(String what, long got, long want) {
        Probe.due("README.md", what, got, want);
    }

    private static void due(String what, boolean got) {
        due(what, got ? 1 : 0, 1);
    }

    private static void example() {
        ChainLoader x = new ChainLoader();
        due("feed", x.feed(0x64617461, 0, 0, 0, 0), 20);
        due("end", x.end(4));
        due("segment", x.segment(32, 3), 0);
        due("feed", x.feed(0x70757473, 0, 0, 0, 0), 20);
        due("end", x.end(4));
        due("imports", x.imports(1, false), 0);
        due("rebase", x.rebase(0, 8, 65540, 0));
        due("bind", x.bind(0, 16, 0, 2));
        due("write", x.write(), 249);
        due("load ahead of the export", x.load(4096), 12);
        due("place", x.place(), 16);
        due("feed", x.feed(0x70757473, 0, 0, 0, 0), 20);
        due("end", x.end(4));
        due("export", x.export(1, 1000));
        due("load behind the export", x.load(4096), 0);
        due("pointer of the rebase", x.pointer(69640), 69636);
        due("pointer of the bind", x.pointer(69648), 1002);
        due("visit", x.visit(1, 0), 69648);
    }

    private static void everyCallIsNamed(String readme) {
        for (Method m : ChainLoader.class.getDeclaredMethods()) {
            if (Modifier.isPublic(m.getModifiers())) {
                due("tells " + m.getName(), readme.contains("`" + m.getName() + "("));
            }
        }
    }

    private static void everyTestIsNamed(String readme) throws IOException {
        try (Stream<Path> files = Files.list(Path.of("src/test/java"))) {
            for (Path file : files.toList()) {
                String name = file.getFileName().toString().replace(".java", "");
                due("tells " + name, readme.contains("`" + name + "`"));
            }
        }
    }

    /** The calls above are those of the example, in its order. */
    private static void exampleIsThatOfTheReadme(String readme) throws IOException {
        int begin = readme.indexOf("```java");
        int end = readme.indexOf("```", begin + 7);
        due("has an example", begin >= 0 && end > begin);
        if (begin >= 0 && end > begin) {
            String here = Files.readString(Path.of("src/test/java/ReadmeTest.java"));
            String body = here.substring(here.indexOf("void example()"), here.indexOf("void everyCallIsNamed"));
            due("has the calls of this test", callsOf(readme.substring(begin, end)).equals(callsOf(body)));
        }
    }

    private static List<String> callsOf(String text) {
        List<String> calls = new ArrayList<>();
        Matcher found = Pattern.compile("\\bx\\.\\w+\\([^()]*\\)").matcher(text);
        while (found.find()) {
            calls.add(found.group());
        }
        return calls;
    }
}
