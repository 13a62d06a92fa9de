import java.lang.reflect.Constructor;
import java.lang.reflect.Field;
import java.lang.reflect.Method;
import java.lang.reflect.Modifier;
import java.nio.file.Files;
import java.nio.file.Path;
import java.util.ArrayList;
import java.util.List;
import java.util.Set;
import java.util.TreeSet;
import java.util.regex.Matcher;
import java.util.regex.Pattern;

/** What can be told of LANGUAGE.md by looking at the source and the compiled class; run in the project's directory. */
public final class SourceRules {
    private static int wrong = 0;

    private static void must(boolean holds, String rule) {
        if (!holds) {
            wrong++;
            System.out.println("not so: " + rule);
        }
    }

    /** The source without comments, texts and signs in quotes. */
    private static String bare(String source) {
        return source.replaceAll("(?s)/\\*.*?\\*/", "").replaceAll("//[^\n]*", "")
                .replaceAll("\"(\\\\.|[^\"\\\\])*\"", "\"\"").replaceAll("'(\\\\.|[^'\\\\])'", "' '");
    }

    private static void words(String code) {
        String[] banned = {"throw", "throws", "try", "catch", "finally", "synchronized", "assert", "volatile", "transient",
            "native", "protected", "instanceof", "Object", "System", "Thread", "Random", "Exception", "var", "HashMap", "Iterator"};
        for (String word : banned) {
            must(!Pattern.compile("\\b" + word + "\\b").matcher(code).find(), "no word " + word);
        }
        must(!code.contains("->"), "no lambda, no arrow");
        must(!code.contains("::"), "no method reference");
        must(!Pattern.compile("static\\s*\\{").matcher(code).find(), "no static initialiser");
        must(!Pattern.compile("\\w+Exact\\b").matcher(code).find(), "none of the Exact functions");
        must(!Pattern.compile("\"\"\\s*\\+|\\+\\s*\"\"").matcher(code).find(), "no texts joined by +");
        must(!Pattern.compile("new\\s+\\w+\\s*\\([^()]*\\)\\s*\\{").matcher(code).find(), "no anonymous class");
        must(!code.contains("package "), "no package line");
        Matcher imports = Pattern.compile("import ([\\w.]+);").matcher(code);
        while (imports.find()) {
            must(imports.group(1).matches("java\\.util\\.(Arrays|ArrayList|List)"), "import of " + imports.group(1));
        }
        Matcher library = Pattern.compile("\\b(Arrays|Math|Integer|Long)\\.(\\w+)").matcher(code);
        while (library.find()) {
            must(Set.of("fill", "copyOf", "copyOfRange", "min", "max", "abs", "bitCount").contains(library.group(2)), "library " + library.group());
        }
    }

    private static void methods(String code) {
        Matcher heads = Pattern.compile("\n( {4,8})(?:(?:public|private|static|final) )*[\\w\\[\\]]+ ?(\\w*)\\(([^)]*)\\) \\{").matcher(code);
        int many = 0;
        while (heads.find()) {
            many++;
            int close = code.indexOf("\n" + heads.group(1) + "}", heads.end());
            int lines = code.substring(heads.start() + 1, close).split("\n").length + 1;
            must(lines <= 60, heads.group(2) + " has " + lines + " lines");
            must(heads.group(3).split(",").length <= 7, heads.group(2) + " has too many parameters");
        }
        must(many > 100, "methods are found");
    }

    private static void face(String document) {
        int from = document.indexOf("public final class MirrorHeirs {");
        Matcher due = Pattern.compile("public int (\\w+)\\(([^)]*)\\);").matcher(document.substring(from, document.indexOf("```", from)));
        Set<String> wanted = new TreeSet<>();
        while (due.find()) {
            int many = due.group(2).isEmpty() ? 0 : due.group(2).split(",").length;
            wanted.add(due.group(1) + " " + many);
        }
        Set<String> names = new TreeSet<>();
        Set<String> found = new TreeSet<>();
        for (Method method : MirrorHeirs.class.getDeclaredMethods()) {
            if (Modifier.isPublic(method.getModifiers())) {
                found.add(method.getName() + " " + method.getParameterCount());
                names.add(method.getName());
                must(method.getReturnType() == int.class && !Modifier.isStatic(method.getModifiers()), method + " answers an int");
                for (Class<?> type : method.getParameterTypes()) {
                    must(type == int.class, method + " takes ints");
                }
            }
        }
        must(wanted.equals(found), "the face: wanted " + wanted + ", found " + found);
        for (Class<?> each : classes()) {
            for (Method method : each.getDeclaredMethods()) {
                boolean outer = each == MirrorHeirs.class;
                must(Modifier.isPublic(method.getModifiers()) == outer || Modifier.isPrivate(method.getModifiers()) || !outer,
                        method + " is public or private");
                must(outer && Modifier.isPublic(method.getModifiers()) || !names.contains(method.getName()),
                        each.getSimpleName() + "." + method.getName() + " bears no name of the face");
            }
        }
        for (Constructor<?> constructor : MirrorHeirs.class.getDeclaredConstructors()) {
            must(Modifier.isPublic(constructor.getModifiers()) && constructor.getParameterCount() == 0, "one constructor");
        }
        must(Modifier.isFinal(MirrorHeirs.class.getModifiers()), "the class is final");
    }

    private static List<Class<?>> classes() {
        List<Class<?>> all = new ArrayList<>(List.of(MirrorHeirs.class.getDeclaredClasses()));
        all.add(MirrorHeirs.class);
        return all;
    }

    private static void fields() {
        must(classes().size() <= 12, "at most 12 classes");
        for (Class<?> each : classes()) {
            must(each == MirrorHeirs.class || Modifier.isStatic(each.getModifiers()), each + " is static");
            int many = 0;
            for (Field field : each.getDeclaredFields()) {
                int modifiers = field.getModifiers();
                many += Modifier.isStatic(modifiers) ? 0 : 1;
                must(!Modifier.isStatic(modifiers) || Modifier.isFinal(modifiers), field + " is final");
                must(each != MirrorHeirs.class || Modifier.isPrivate(modifiers) || field.getName().equals("NONE"), field + " is private");
            }
            must(many <= 20, each + " has " + many + " fields");
        }
    }

    public static void main(String[] args) throws Exception {
        String source = Files.readString(Path.of("src/main/java/MirrorHeirs.java"));
        String shared = System.getenv().getOrDefault("SHARED", "../shared");
        for (int i = 0; i < source.length(); i++) {
            must(source.charAt(i) < 128, "sign " + i + " of the source is plain");
        }
        words(bare(source));
        methods(bare(source));
        face(Files.readString(Path.of(shared, "DOC.md")));
        fields();
        System.out.println(wrong == 0 ? "the source keeps to the rules that are looked at" : wrong + " rules are broken");
        if (wrong != 0) {
            System.exit(1);
        }
    }
}
