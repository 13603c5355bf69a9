import java.io.IOException;
import java.lang.reflect.Constructor;
import java.lang.reflect.Field;
import java.lang.reflect.Method;
import java.lang.reflect.Modifier;
import java.nio.file.Files;
import java.nio.file.Path;
import java.util.Set;
import java.util.TreeSet;
import java.util.regex.Matcher;
import java.util.regex.Pattern;

/** The public face, and those rules of LANGUAGE.md that can be seen from the class and its text. */
public final class FaceTest {
    private static final String[] FACE = {
        "int type(int,int)", "int wipe(int)", "int undo(int)", "int fault(int)", "int road(int,int)",
        "int person(int,int)", "int set(int,int)", "int way(int,int)", "int hears(int,int)", "int crowned()",
        "int knew(int)", "int rides(int,int)", "int lost(int)", "int swear(int)", "int place(int)", "int litter(int)",
        "int seen(int,int)", "int forget()", "int read(int)", "int fits(int)", "int ask()",
        "long out(int,int,int,int)", "int reigns(int,int,int)", "int sheet(int,int,int)", "int lose(int)",
        "int lay(int,int,int,int)", "int get(int,int,int)", "int copy(int,int,int,int,int)", "int write(int,int)",
        "int count(int)", "long digest()"};
    private static final String[] BANNED = {
        "throw", "try", "catch", "synchronized", "assert", "import static", "System.out", "Exact", "::", "->", "@",
        "volatile", "native", "protected", "package", "Object", "hashCode", "toString", "Thread", "Random", "HashMap"};

    /** What the class may name of the library; LANGUAGE.md lists functions there, so no MAX_VALUE. */
    private static final Set<String> LIBRARY = Set.of("Arrays.fill", "Arrays.copyOf", "Arrays.copyOfRange",
        "System.arraycopy", "Math.min", "Math.max", "Math.abs", "Integer.bitCount");

    public static void main(String[] args) throws IOException {
        constants();
        methods();
        nested();
        text(Files.readString(Path.of("src/main/java/CrownlessDays.java")));
        Check.end();
    }

    private static void constants() {
        Check.due("NONE", CrownlessDays.NONE, -1);
        Check.due("BAD", CrownlessDays.BAD, -2);
        Check.due("NOT", CrownlessDays.NOT, -3);
        Check.due("FULL", CrownlessDays.FULL, -4);
        int open = 0;
        for (Field f : CrownlessDays.class.getDeclaredFields()) {
            boolean isPrivate = Modifier.isPrivate(f.getModifiers());
            open += isPrivate ? 0 : 1;
            Check.holds(f + " is private or a constant of the face",
                    isPrivate || Set.of("NONE", "BAD", "NOT", "FULL").contains(f.getName()));
            Check.holds(f + ": static is final",
                    !Modifier.isStatic(f.getModifiers()) || Modifier.isFinal(f.getModifiers()));
        }
        Check.due("open fields", open, 4);
    }

    private static void methods() {
        Check.holds("the class is public and final",
                Modifier.isPublic(CrownlessDays.class.getModifiers()) && Modifier.isFinal(CrownlessDays.class.getModifiers()));
        Set<String> open = new TreeSet<>();
        Set<String> openNames = new TreeSet<>();
        Set<String> closedNames = new TreeSet<>();
        for (Method m : CrownlessDays.class.getDeclaredMethods()) {
            if (Modifier.isPrivate(m.getModifiers())) {
                closedNames.add(m.getName());
                continue;
            }
            StringBuilder types = new StringBuilder();
            for (Class<?> p : m.getParameterTypes()) {
                types.append(types.length() == 0 ? "" : ",").append(p);
            }
            open.add(m.getReturnType() + " " + m.getName() + "(" + types + ")");
            openNames.add(m.getName());
            Check.holds(m + " is public", Modifier.isPublic(m.getModifiers()));
        }
        Check.holds("the methods are those of the face: " + open, open.equals(new TreeSet<>(Set.of(FACE))));
        closedNames.retainAll(openNames);
        Check.holds("private methods with a public one's name: " + closedNames, closedNames.isEmpty());
        Constructor<?>[] all = CrownlessDays.class.getDeclaredConstructors();
        Check.due("constructors", all.length, 1);
        Check.due("parameters", all[0].getParameterCount(), 0);
        Check.holds("public", Modifier.isPublic(all[0].getModifiers()));
    }

    private static void nested() {
        Class<?>[] inside = CrownlessDays.class.getDeclaredClasses();
        Check.holds("at most twelve classes", inside.length <= 12);
        for (Class<?> c : inside) {
            Check.holds(c + " is static", Modifier.isStatic(c.getModifiers()));
            Check.holds(c + " is not open", !Modifier.isPublic(c.getModifiers()) && !Modifier.isProtected(c.getModifiers()));
            for (Method m : c.getDeclaredMethods()) {
                Check.holds(m + ": at most seven parameters", m.getParameterCount() <= 7);
                Check.holds(m + ": not a name of the face", !isOfTheFace(m.getName()));
            }
            for (Field f : c.getDeclaredFields()) {
                Check.holds(f + ": static is final",
                        !Modifier.isStatic(f.getModifiers()) || Modifier.isFinal(f.getModifiers()));
            }
        }
    }

    private static boolean isOfTheFace(String name) {
        for (String method : FACE) {
            if (method.contains(" " + name + "(")) {
                return true;
            }
        }
        return false;
    }

    private static void text(String source) {
        String code = source.replaceAll("(?s)/\\*.*?\\*/", "").replaceAll("//[^\n]*", "");
        for (String word : BANNED) {
            boolean letters = Character.isLetter(word.charAt(0));
            Pattern p = Pattern.compile(letters ? "\\b" + Pattern.quote(word) + "\\b" : Pattern.quote(word));
            Check.holds("no " + word, !p.matcher(code).find());
        }
        Matcher imports = Pattern.compile("import ([^;]+);").matcher(code);
        while (imports.find()) {
            Check.holds("import " + imports.group(1), Set.of("java.util.Arrays").contains(imports.group(1)));
        }
        Matcher library = Pattern.compile("(?<![\\w.])[A-Z]\\w*[a-z]\\w*\\.\\w+").matcher(code.replaceAll("import [^;]+;", ""));
        while (library.find()) {
            Check.holds("library: " + library.group(), LIBRARY.contains(library.group()));
        }
        shortMethods(code);
    }

    /** A method begins with an indented head that ends in { and ends with a } of the same indent. */
    private static void shortMethods(String code) {
        String[] lines = code.split("\n");
        for (int i = 0; i < lines.length; i++) {
            Matcher head = Pattern.compile("^( {4}| {8})\\w[^=;]*\\) \\{$").matcher(lines[i]);
            if (!head.find() || lines[i].trim().matches("(if|for|while|switch|else|do)\\b.*")) {
                continue;
            }
            int end = i;
            while (end < lines.length && !lines[end].equals(head.group(1) + "}")) {
                end++;
            }
            Check.holds("short: " + lines[i].trim(), end - i + 1 <= 60);
        }
    }
}
