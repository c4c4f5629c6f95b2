import java.lang.reflect.Constructor;
import java.lang.reflect.Field;
import java.lang.reflect.Method;
import java.lang.reflect.Modifier;
import java.nio.file.Files;
import java.nio.file.Path;
import java.util.List;
import java.util.Map;
import java.util.Set;
import java.util.TreeMap;
import java.util.TreeSet;
import java.util.regex.Matcher;
import java.util.regex.Pattern;

/** The face of the class, and those rules of LANGUAGE.md that can be seen in its text and its members. */
public final class LanguageTest {
    private static final int LONGEST_METHOD = 60, MOST_CLASSES = 12, MOST_FIELDS = 20, MOST_PARAMETERS = 7;
    /** The document's methods, as shown() shows them, and its constants with their values. */
    private static final Set<String> FACE = new TreeSet<>();
    private static final Map<String, Integer> CONSTANTS = new TreeMap<>();
    private static int wrong = 0;

    private static void must(boolean holds, String what) {
        if (!holds) {
            wrong++;
            System.out.println("not so: " + what);
        }
    }

    /** Reads the face as the document writes it, so that it is not told twice. */
    private static void readFace(String document) {
        String block = document.substring(document.indexOf("```java") + 7);
        block = block.substring(0, block.indexOf("```"));
        Matcher methods = Pattern.compile("public (int|long) (\\w+)\\(([^)]*)\\);").matcher(block);
        while (methods.find()) {
            String types = methods.group(3).replaceAll(" \\w+(?=,|$)", "").replace(" ", "");
            FACE.add(methods.group(1) + " " + methods.group(2) + "(" + types + ")");
        }
        Matcher constants = Pattern.compile("(\\w+) = (-?\\d+)").matcher(block);
        while (constants.find()) {
            CONSTANTS.put(constants.group(1), Integer.valueOf(constants.group(2)));
        }
        must(FACE.size() == 24 && CONSTANTS.size() == 5, "24 methods and 5 constants in the document");
    }

    private static String shown(Method m) {
        StringBuilder b = new StringBuilder(m.getReturnType().getName() + " " + m.getName() + "(");
        for (int i = 0; i < m.getParameterTypes().length; i++) {
            b.append(i > 0 ? "," : "").append(m.getParameterTypes()[i].getName());
        }
        return b + ")";
    }

    private static void face() throws IllegalAccessException {
        Class<?> c = MensuralRows.class;
        must(Modifier.isPublic(c.getModifiers()) && Modifier.isFinal(c.getModifiers()), "public and final");
        must(c.getSuperclass() == Object.class && c.getInterfaces().length == 0, "nothing above it");
        Set<String> left = new TreeSet<>(FACE);
        for (Method m : c.getDeclaredMethods()) {
            if (Modifier.isPublic(m.getModifiers())) {
                must(left.remove(shown(m)) && !Modifier.isStatic(m.getModifiers()), "the document has " + shown(m));
            } else {
                must(Modifier.isPrivate(m.getModifiers()), m.getName() + " is private");
                must(!isFaceName(m.getName()), m + " has a name of its own");
            }
            must(m.getExceptionTypes().length == 0, m + " throws nothing");
        }
        must(left.isEmpty(), "all methods are there, but " + left);
        must(c.getDeclaredConstructors().length == 1, "one constructor");
        for (Constructor<?> k : c.getDeclaredConstructors()) {
            must(k.getParameterCount() == 0 && Modifier.isPublic(k.getModifiers()), "a public constructor");
        }
        fields(c);
        must(c.getDeclaredClasses().length < MOST_CLASSES, "some twelve classes");
        for (Class<?> inside : c.getDeclaredClasses()) {
            inside(inside);
        }
    }

    private static boolean isFaceName(String name) {
        return FACE.stream().anyMatch(f -> f.contains(" " + name + "("));
    }

    private static void fields(Class<?> c) throws IllegalAccessException {
        Map<String, Integer> left = new TreeMap<>(CONSTANTS);
        for (Field f : c.getDeclaredFields()) {
            Integer worth = left.remove(f.getName());
            if (worth == null) {
                must(Modifier.isPrivate(f.getModifiers()), f + " is private");
                continue;
            }
            int all = Modifier.PUBLIC | Modifier.STATIC | Modifier.FINAL;
            must(f.getModifiers() == all && f.getType() == int.class && f.getInt(null) == worth, f + " is " + worth);
        }
        must(left.isEmpty(), "all constants are there, but " + left);
        count(c);
    }

    private static void count(Class<?> c) {
        int own = 0;
        for (Field f : c.getDeclaredFields()) {
            own += Modifier.isStatic(f.getModifiers()) ? 0 : 1;
            boolean constant = Modifier.isFinal(f.getModifiers()) && f.getType().isPrimitive();
            must(!Modifier.isStatic(f.getModifiers()) || constant, f + " is a constant number");
            must(!f.getType().isArray() || !f.getType().getComponentType().isArray(), f + " has one dimension");
        }
        must(own <= MOST_FIELDS, c + " has some twenty fields");
    }

    private static void inside(Class<?> c) {
        must(Modifier.isStatic(c.getModifiers()) && !Modifier.isPublic(c.getModifiers()), c + " is static, not public");
        must(!Modifier.isProtected(c.getModifiers()) && c.getDeclaredClasses().length == 0, c + " holds no class");
        count(c);
        for (Method m : c.getDeclaredMethods()) {
            must(m.getParameterCount() <= MOST_PARAMETERS, m + " has at most seven parameters");
            must(!isFaceName(m.getName()), m + " has a name of its own");
        }
    }

    /** Methods begin with a line that ends with "{" and end with a "}" as far in. */
    private static void lengths(String text) {
        List<String> lines = text.lines().toList();
        for (int i = 0; i < lines.size(); i++) {
            Matcher head = Pattern.compile("( {4}| {8})\\w.*\\) \\{").matcher(lines.get(i));
            if (head.matches() && !lines.get(i).contains(" class ")) {
                int end = lines.subList(i, lines.size()).indexOf(head.group(1) + "}");
                must(end > 0 && end < LONGEST_METHOD, "a short method: " + lines.get(i).trim());
            }
        }
    }

    private static void words(String text) {
        String code = text.replaceAll("(?s)/\\*.*?\\*/", "").replaceAll("//[^\n]*", "");
        for (String word : List.of("throw", "throws", "try", "catch", "synchronized", "assert", "package", "String",
            "Object", "var", "equals", "hashCode", "toString", "Random", "Thread", "double", "float")) {
            must(!Pattern.compile("\\b" + word + "\\b").matcher(code).find(), "no " + word);
        }
        must(!code.contains("->") && !code.contains("::"), "no lambda, no method reference");
        Matcher imports = Pattern.compile("import ([^;]+);").matcher(code);
        while (imports.find()) {
            must(imports.group(1).equals("java.util.Arrays"), "import " + imports.group(1));
        }
        Matcher library = Pattern.compile("\\b(Math|Integer|Long|Arrays|System)\\.(\\w+)").matcher(code);
        while (library.find()) {
            must(List.of("max", "min", "abs", "compare", "numberOfLeadingZeros", "fill").contains(library.group(2)),
                library.group());
        }
    }

    public static void main(String[] args) throws Exception {
        readFace(Files.readString(Path.of("../shared/DOC.md")));
        face();
        String text = Files.readString(Path.of("src/main/java/MensuralRows.java"));
        words(text);
        lengths(text);
        System.out.println(wrong == 0 ? "face and language are as told" : wrong + " wrong");
        if (wrong != 0) {
            System.exit(1);
        }
    }
}
