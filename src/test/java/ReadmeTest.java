import java.io.IOException;
import java.lang.reflect.Method;
import java.lang.reflect.Modifier;
import java.nio.file.Files;
import java.nio.file.Path;
import java.util.List;
import java.util.regex.Matcher;
import java.util.regex.Pattern;

/** The examples in README.md are made as they stand there: each answer is to be the one behind its call. */
public final class ReadmeTest {
    private static final Check CHECK = new Check();
    private static final Pattern TOLD = Pattern.compile("tell\\(x, \"(.*)\"\\);");
    private static final Pattern CALL = Pattern.compile("x\\.(\\w+)\\((.*?)\\); +// (-?\\w+)\\b.*");

    private static SourceRoutes x;

    /** Lines in blocks of Java that begin with a call on x, or make it anew. */
    private static int examples(List<String> lines) throws ReflectiveOperationException {
        boolean java = false;
        int calls = 0;
        for (String line : lines) {
            String words = line.trim();
            Matcher told = TOLD.matcher(words);
            Matcher call = CALL.matcher(words);
            if (line.startsWith("```")) {
                java = line.equals("```java");
            } else if (java && words.equals("SourceRoutes x = new SourceRoutes();")) {
                x = new SourceRoutes();
            } else if (java && told.matches()) {
                Check.tell(x, told.group(1));
            } else if (java && call.matches()) {
                CHECK.due(words, answer(call.group(1), call.group(2)), number(call.group(3)));
                calls++;
            }
        }
        return calls;
    }

    private static long answer(String name, String list) throws ReflectiveOperationException {
        String[] words = list.isEmpty() ? new String[0] : list.split(", ");
        Object[] args = new Object[words.length];
        for (int k = 0; k < words.length; k++) {
            boolean truth = words[k].equals("true") || words[k].equals("false");
            args[k] = truth ? (Object) Boolean.valueOf(words[k]) : (Object) Integer.valueOf(words[k]);
        }
        for (Method m : SourceRoutes.class.getMethods()) {
            if (m.getName().equals(name) && m.getParameterCount() == args.length) {
                return number(String.valueOf(m.invoke(x, args)));
            }
        }
        throw new IllegalStateException("there is no call " + name + " of " + args.length);
    }

    private static long number(String answer) {
        switch (answer) {
            case "NONE": return SourceRoutes.NONE;
            case "true": return 1;
            case "false": return 0;
            default: return Long.parseLong(answer);
        }
    }

    /** Each call of the face stands in the page with as many arguments as it takes, outside its blocks. */
    private static void faceIsTold(List<String> lines) {
        StringBuilder page = new StringBuilder();
        boolean block = false;
        for (String line : lines) {
            block ^= line.startsWith("```");
            page.append(block ? "" : line).append("\n");
        }
        for (Method m : SourceRoutes.class.getDeclaredMethods()) {
            if (Modifier.isPublic(m.getModifiers())) {
                int more = m.getParameterCount() - 1;
                String list = more < 0 ? "" : "\\w+(, \\w+){" + more + "}";
                boolean found = Pattern.compile("`" + m.getName() + "\\(" + list + "\\)`").matcher(page).find();
                CHECK.due("README.md tells " + m.getName(), found, true);
            }
        }
    }

    public static void main(String[] args) throws IOException, ReflectiveOperationException {
        List<String> lines = Files.readAllLines(Path.of("README.md"));
        CHECK.due("examples were found", examples(lines) >= 50, true);
        faceIsTold(lines);
        CHECK.end("ReadmeTest");
    }
}
