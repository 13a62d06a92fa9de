import java.io.PrintWriter;
import java.io.StringWriter;
import java.nio.file.Path;
import java.util.ArrayList;
import java.util.List;
import java.util.Map;
import java.util.Optional;
import java.util.Set;
import java.util.TreeMap;
import java.util.TreeSet;
import java.util.regex.Matcher;
import java.util.regex.Pattern;
import java.util.spi.ToolProvider;

/** LANGUAGE.md's rule 11: how deep calls go, those that call one another in a ring counted as one. */
public final class CallDepth {
    private static final int MOST = 8;
    private static final Pattern METHOD = Pattern.compile("  (?:(?:public|private|static|final) )*(?:[\\w\\[\\]$]+ )?([\\w$]+)\\(.*\\);");
    private static final Pattern CALL = Pattern.compile("invoke\\w+ .*// Method (?:(MirrorHeirs[\\w$]*)\\.)?\"?([\\w<>]+)\"?:");

    private static final Map<String, Set<String>> CALLED = new TreeMap<>();
    private static final Map<String, Set<String>> REACHED = new TreeMap<>();
    private static final Map<String, List<String>> LONGEST = new TreeMap<>();

    /** A call without a class's name ahead of it is one of the same class. */
    private static void read(ToolProvider javap, Class<?> type) throws Exception {
        Path directory = Path.of(MirrorHeirs.class.getProtectionDomain().getCodeSource().getLocation().toURI());
        StringWriter text = new StringWriter();
        PrintWriter out = new PrintWriter(text);
        javap.run(out, out, "-c", "-p", directory.resolve(type.getName() + ".class").toString());
        String method = "";
        for (String line : text.toString().split("\\R")) {
            Matcher head = METHOD.matcher(line);
            if (head.matches()) {
                String name = head.group(1).equals(type.getName()) ? "<init>" : head.group(1);
                method = type.getName() + "." + name;
                CALLED.computeIfAbsent(method, key -> new TreeSet<>());
            }
            Matcher call = CALL.matcher(line);
            if (call.find()) {
                CALLED.get(method).add((call.group(1) == null ? type.getName() : call.group(1)) + "." + call.group(2));
            }
        }
    }

    private static Set<String> reached(String method) {
        Set<String> known = REACHED.get(method);
        if (known != null) {
            return known;
        }
        Set<String> found = new TreeSet<>();
        List<String> open = new ArrayList<>(CALLED.getOrDefault(method, Set.of()));
        while (!open.isEmpty()) {
            String next = open.remove(open.size() - 1);
            if (found.add(next)) {
                open.addAll(CALLED.getOrDefault(next, Set.of()));
            }
        }
        REACHED.put(method, found);
        return found;
    }

    private static List<String> longest(String method) {
        List<String> known = LONGEST.get(method);
        if (known != null) {
            return known;
        }
        Set<String> ring = new TreeSet<>(reached(method));
        ring.removeIf(other -> !reached(other).contains(method));
        ring.add(method);
        List<String> best = List.of();
        for (String each : ring) {
            for (String next : CALLED.getOrDefault(each, Set.of())) {
                if (!ring.contains(next) && longest(next).size() > best.size()) {
                    best = longest(next);
                }
            }
        }
        List<String> all = new ArrayList<>(List.of(String.join("|", ring)));
        all.addAll(best);
        LONGEST.put(method, all);
        return all;
    }

    public static void main(String[] args) throws Exception {
        Optional<ToolProvider> javap = ToolProvider.findFirst("javap");
        if (javap.isEmpty()) {
            System.out.println("this Java has no javap: nothing was looked at");
            return;
        }
        read(javap.get(), MirrorHeirs.class);
        for (Class<?> each : MirrorHeirs.class.getDeclaredClasses()) {
            read(javap.get(), each);
        }
        int wrong = CALLED.size() > 100 && reached("MirrorHeirs.law").contains("MirrorHeirs$Reader.byteAt") ? 0 : 1;
        for (String method : CALLED.keySet()) {
            if (longest(method).size() > MOST) {
                wrong++;
                System.out.println(longest(method).size() + " deep: " + longest(method));
            }
        }
        System.out.println(wrong == 0 ? "calls go at most " + MOST + " deep" : "calls go too deep, or were not found");
        if (wrong != 0) {
            System.exit(1);
        }
    }
}
