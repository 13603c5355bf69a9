import java.io.IOException;
import java.net.URL;
import java.net.URLClassLoader;
import java.nio.file.Files;
import java.nio.file.Path;
import java.util.ArrayList;
import java.util.List;
import java.util.Set;
import java.util.TreeSet;
import java.util.regex.Matcher;
import java.util.regex.Pattern;
import java.util.stream.Stream;
import javax.tools.ToolProvider;

/** What README.md shows: its java blocks, one behind another, are compiled and asked, and answer as it says. */
public final class ReadmeTest {
    private static final Pattern BLOCK = Pattern.compile("(?ms)^```java\n(.*?)^```$");
    private static final Pattern SHOWN = Pattern.compile("(x\\.(\\w+)\\(.*\\));\\s*// (-?\\d+)\\b.*");
    /** An object's calls that the document says something about. */
    private static final int MOST_CALLS = 512;

    private static final List<String> calls = new ArrayList<>();
    private static final List<Long> answers = new ArrayList<>();
    private static final Set<String> names = new TreeSet<>();

    public static void main(String[] args) throws Exception {
        String readme = Files.readString(Path.of("README.md"));
        long[] got = ask(program(readme));
        Check.due("answers to the calls of README.md", got.length, calls.size());
        for (int i = 0; i < got.length && i < calls.size(); i++) {
            Check.due("README.md: " + calls.get(i), got[i], answers.get(i));
        }
        everyCallIsShown();
        everyTestIsNamed(readme);
        Check.end();
    }

    /** A class that makes the calls of all blocks in turn and keeps each answer that the page tells. */
    private static String program(String readme) {
        StringBuilder body = new StringBuilder();
        Matcher blocks = BLOCK.matcher(readme);
        while (blocks.find()) {
            for (String line : blocks.group(1).split("\n")) {
                Matcher shown = SHOWN.matcher(line);
                Check.holds("README.md tells the answer: " + line, shown.matches() || !line.startsWith("x."));
                if (shown.matches()) {
                    calls.add(shown.group(1));
                    names.add(shown.group(2));
                    answers.add(Long.parseLong(shown.group(3)));
                    body.append("all.add((long) ").append(shown.group(1)).append(");\n");
                } else {
                    body.append(line).append('\n');
                }
            }
        }
        return "public final class Shown {\n public static long[] answers() {\n"
                + "java.util.List<Long> all = new java.util.ArrayList<>();\n" + body
                + "return all.stream().mapToLong(Long::longValue).toArray();\n }\n}\n";
    }

    private static long[] ask(String program) throws Exception {
        Path place = Files.createTempDirectory("shown");
        try {
            Path source = place.resolve("Shown.java");
            Files.writeString(source, program);
            int failed = ToolProvider.getSystemJavaCompiler().run(null, null, null,
                    "-cp", System.getProperty("java.class.path"), "-d", place.toString(), source.toString());
            Check.due("README.md's blocks compile", failed, 0);
            if (failed != 0) {
                return new long[0];
            }
            try (URLClassLoader loader = new URLClassLoader(new URL[] {place.toUri().toURL()})) {
                return (long[]) loader.loadClass("Shown").getMethod("answers").invoke(null);
            }
        } finally {
            for (String name : List.of("Shown.java", "Shown.class")) {
                Files.deleteIfExists(place.resolve(name));
            }
            Files.delete(place);
        }
    }

    private static void everyCallIsShown() {
        Set<String> face = new TreeSet<>();
        for (var method : CrownlessDays.class.getDeclaredMethods()) {
            if (java.lang.reflect.Modifier.isPublic(method.getModifiers())) {
                face.add(method.getName());
            }
        }
        Check.holds("README.md shows every call: " + names, names.equals(face));
        Check.holds("README.md's object gets few enough calls", calls.size() < MOST_CALLS / 2);
    }

    private static void everyTestIsNamed(String readme) throws IOException {
        try (Stream<Path> files = Files.list(Path.of("src/test/java"))) {
            for (Path file : (Iterable<Path>) files::iterator) {
                String name = file.getFileName().toString().replace(".java", "");
                boolean ofARange = name.matches("Promise\\d\\dTest");
                Check.holds("README.md names " + name, ofARange || readme.contains(name));
            }
        }
    }
}
