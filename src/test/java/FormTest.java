import java.io.IOException;
import java.lang.reflect.Field;
import java.lang.reflect.Method;
import java.lang.reflect.Modifier;
import java.nio.file.Files;
import java.nio.file.Path;
import java.util.Set;
import java.util.TreeSet;

/** The face of the document and what ../shared/LANGUAGE.md rules out, as far as it can be seen from outside. */
public final class FormTest {
    private static final Check CHECK = new Check();
    private static final String[] FACE = {
        "say(long)int", "net()int", "fault(boolean)int", "send(int,int)int", "turn(int,int,boolean)boolean",
        "ticks(int)int", "has(int)int", "node(int,int)int", "kept(int,int,int)int", "seen(int,int)int",
        "waits(int,int)int", "way(int,int,int)int", "hops(int,int)int", "data(int,int)int",
        "trail(int,int,boolean)int", "air(int,int)int", "row(int,int)int", "tally(int)int", "far(int,int)int",
        "holders(int,int)int", "stale(int)int", "sound(int,int)boolean", "mapped(int,int)int",
        "bridges(int,int)int", "ahead(int,int)int", "turned(int,int,int,int)int", "sent(int,int,int,int)int",
        "flood(int,int,boolean)int", "quiet()int", "image(int)boolean", "again(int)boolean"};
    private static final String[] BARRED = {
        "throw", "try", "catch", "synchronized", "assert", "import", "package", "protected", "->", "::", "volatile",
        "native", "Exact", "hashCode", "toString", "random", "System.nanoTime", "System.currentTimeMillis", "System.out"};

    private static String signature(Method m) {
        StringBuilder s = new StringBuilder(m.getName()).append("(");
        for (Class<?> type : m.getParameterTypes()) {
            s.append(s.charAt(s.length() - 1) == '(' ? "" : ",").append(type.getSimpleName());
        }
        return s.append(")").append(m.getReturnType().getSimpleName()).toString();
    }

    private static void face() {
        Set<String> found = new TreeSet<>();
        Set<String> names = new TreeSet<>();
        for (Method m : SourceRoutes.class.getDeclaredMethods()) {
            if (Modifier.isPublic(m.getModifiers())) {
                found.add(signature(m));
                names.add(m.getName());
            } else if (!m.isSynthetic()) {
                CHECK.due(m.getName() + " is private", Modifier.isPrivate(m.getModifiers()), true);
            }
        }
        CHECK.due("the face is the document's: " + found, found.equals(new TreeSet<>(Set.of(FACE))), true);
        CHECK.due("final", Modifier.isFinal(SourceRoutes.class.getModifiers()), true);
        CHECK.due("constructors", SourceRoutes.class.getConstructors().length, 1);
        CHECK.due("public fields", SourceRoutes.class.getFields().length, 1);
        CHECK.due("twelve classes at most", SourceRoutes.class.getDeclaredClasses().length <= 11, true);
        inside(SourceRoutes.class, names);
        for (Class<?> c : SourceRoutes.class.getDeclaredClasses()) {
            CHECK.due(c.getName() + " is static", Modifier.isStatic(c.getModifiers()), true);
            inside(c, names);
        }
    }

    /** No method but the face's own bears a name of the face, and none takes more than seven. */
    private static void inside(Class<?> c, Set<String> names) {
        for (Method m : c.getDeclaredMethods()) {
            CHECK.due(m + " takes seven at most", m.getParameterCount() <= 7, true);
            if (!Modifier.isPublic(m.getModifiers())) {
                CHECK.due(m + " bears a name of the face", names.contains(m.getName()), false);
            }
        }
    }

    /** Some twenty fields beside the constants; no static state. */
    private static void fields() {
        fieldsOf(SourceRoutes.class);
        for (Class<?> c : SourceRoutes.class.getDeclaredClasses()) {
            fieldsOf(c);
        }
    }

    private static void fieldsOf(Class<?> c) {
        int own = 0;
        for (Field f : c.getDeclaredFields()) {
            if (Modifier.isStatic(f.getModifiers())) {
                CHECK.due(f + " is final", Modifier.isFinal(f.getModifiers()), true);
            } else {
                own++;
            }
        }
        CHECK.due(c.getName() + " has twenty fields at most", own <= 20, true);
    }

    /** Some sixty lines a method: members of a class stand four blanks deep, those of classes inside it eight. */
    private static void methods() throws IOException {
        int begun = 0;
        int at = 0;
        for (String line : Files.readAllLines(Path.of("src/main/java/SourceRoutes.java"))) {
            at++;
            if (line.matches("( {4}| {8})[\\w\\[\\] ]+\\(.*\\) \\{") && !line.trim().matches("(if|for|while|switch)\\b.*")) {
                begun = at;
            } else if (line.matches("( {4}| {8})\\}")) {
                CHECK.due("the method at line " + begun + " has sixty lines at most", begun == 0 || at - begun < 60, true);
                begun = 0;
            }
        }
    }

    private static void words() throws IOException {
        String source = Files.readString(Path.of("src/main/java/SourceRoutes.java"));
        String code = source.replaceAll("(?s)/\\*.*?\\*/", "").replaceAll("//[^\n]*", "");
        for (String word : BARRED) {
            boolean isWord = Character.isLetter(word.charAt(0));
            boolean found = isWord ? code.matches("(?s).*\\b" + word + "\\b.*") : code.contains(word);
            CHECK.due("the source has " + word, found, false);
        }
        CHECK.due("signs of 127 at most", source.chars().allMatch(c -> c < 128), true);
    }

    public static void main(String[] args) throws IOException {
        face();
        fields();
        methods();
        words();
        CHECK.end("FormTest");
    }
}
