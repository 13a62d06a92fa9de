import java.lang.reflect.Method;
import java.nio.file.Files;
import java.nio.file.Path;
import java.util.Set;
import java.util.TreeSet;
import java.util.regex.Matcher;
import java.util.regex.Pattern;

/** Makes the calls that README.md shows, in its order; run in the project's directory. */
public final class ReadmeRows extends Due {
    private static final Pattern CALL = Pattern.compile("hall\\.(\\w+)\\(([^)]*)\\);\\s*// (-?\\d+)\\b.*");

    public static void main(String[] args) throws Exception {
        begin("README.md");
        int rows = 0;
        boolean within = false;
        String page = Files.readString(Path.of("README.md"));
        for (String line : page.split("\n")) {
            if (line.startsWith("```")) {
                within = line.equals("```java");
            } else if (within && line.contains("new MirrorHeirs()")) {
                again();
            } else if (within && !line.isBlank()) {
                row(line, CALL.matcher(line));
                rows++;
            }
        }
        due("whether it shows calls at all", rows > 0 ? 1 : 0, 1);
        due("how many public methods it does not name", unnamed(page).size(), 0);
        finish(rows + " calls of README.md answer what it says");
    }

    /** A row without an answer that can be looked at is wrong, too. */
    private static void row(String line, Matcher call) throws Exception {
        boolean read = call.matches();
        due("whether this can be looked at: " + line, read ? 1 : 0, 1);
        if (read) {
            due(line, answer(call.group(1), call.group(2)), Integer.parseInt(call.group(3)));
        }
    }

    private static int answer(String name, String written) throws Exception {
        String[] words = written.isBlank() ? new String[0] : written.split(",\\s*");
        Object[] numbers = new Object[words.length];
        Class<?>[] types = new Class<?>[words.length];
        for (int i = 0; i < words.length; i++) {
            numbers[i] = Integer.decode(words[i]);
            types[i] = int.class;
        }
        return (Integer) MirrorHeirs.class.getMethod(name, types).invoke(m, numbers);
    }

    private static Set<String> unnamed(String page) {
        Set<String> names = new TreeSet<>();
        for (Method method : MirrorHeirs.class.getDeclaredMethods()) {
            String name = method.getName();
            if (java.lang.reflect.Modifier.isPublic(method.getModifiers()) && !page.contains("`" + name + "`")) {
                names.add(name);
            }
        }
        return names;
    }
}
