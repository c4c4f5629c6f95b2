import java.lang.reflect.Constructor;
import java.lang.reflect.Field;
import java.lang.reflect.Method;
import java.lang.reflect.Modifier;
import java.nio.file.Files;
import java.nio.file.Path;
import java.util.List;
import java.util.Map;
import java.util.TreeMap;
import java.util.regex.Matcher;
import java.util.regex.Pattern;

/** The face of the class, and those rules of LANGUAGE.md that can be seen in its text and its members. */
public final class LanguageTest {
    private static final List<String> FACE = List.of("int voice(int)", "int note(int,int,int,boolean)", "int rest(int,int)",
        "int dot(int)", "int ligature(int,int,int,long)", "int proportion(int,int,int)", "int back(int)",
        "int told(int,int)", "int symbol(int,int,int)", "int readings(int)", "int stuck(int)", "int strained(int,int)",
        "int form(int,int,int)", "int value(int,int,int)", "int pick(int,int)", "long time(int,int,int)",
        "int at(int,int,int)", "int together()", "int meet(int,int,int)", "int canon(int,int,int,int)",
        "long follower(int,int,int)", "int write(int,int,int,int,int)", "int written(int)", "int count(int)");
    private static int wrong = 0;

    private static void must(boolean holds, String what) {
        if (!holds) {
            wrong++;
            System.out.println("not so: " + what);
        }
    }

    private static String shown(Method m) {
        StringBuilder b = new StringBuilder(m.getReturnType().getName() + " " + m.getName() + "(");
        for (int i = 0; i < m.getParameterTypes().length; i++) {
            b.append(i > 0 ? "," : "").append(m.getParameterTypes()[i].getName());
        }
        return b + ")";
    }

    private static void face() {
        Class<?> c = MensuralRows.class;
        must(Modifier.isPublic(c.getModifiers()) && Modifier.isFinal(c.getModifiers()), "public and final");
        Map<String, Boolean> left = new TreeMap<>();
        FACE.forEach(f -> left.put(f, true));
        for (Method m : c.getDeclaredMethods()) {
            if (Modifier.isPublic(m.getModifiers())) {
                must(left.remove(shown(m)) != null, "the document has " + shown(m));
            } else {
                must(Modifier.isPrivate(m.getModifiers()), m.getName() + " is private");
            }
        }
        must(left.isEmpty(), "all methods are there, but " + left.keySet());
        for (Constructor<?> k : c.getDeclaredConstructors()) {
            must(k.getParameterCount() == 0 && Modifier.isPublic(k.getModifiers()), "one public constructor");
        }
        for (Field f : c.getDeclaredFields()) {
            boolean known = List.of("NONE", "BAD", "FULL", "MANY", "SHAPE").contains(f.getName());
            must(known ? Modifier.isPublic(f.getModifiers()) : Modifier.isPrivate(f.getModifiers()), f + " as told");
        }
        must(c.getDeclaredClasses().length <= 12, "some twelve classes");
        for (Class<?> inside : c.getDeclaredClasses()) {
            inside(inside);
        }
    }

    private static void inside(Class<?> c) {
        must(Modifier.isStatic(c.getModifiers()) && !Modifier.isPublic(c.getModifiers()), c + " is static, not public");
        int fields = 0;
        for (Field f : c.getDeclaredFields()) {
            fields += Modifier.isStatic(f.getModifiers()) ? 0 : 1;
            must(!Modifier.isStatic(f.getModifiers()) || Modifier.isFinal(f.getModifiers()), f + " is final");
        }
        must(fields <= 20, c + " has some twenty fields");
        for (Method m : c.getDeclaredMethods()) {
            must(m.getParameterCount() <= 7, m + " has at most seven parameters");
            must(FACE.stream().noneMatch(f -> f.contains(" " + m.getName() + "(")), m + " has a name of its own");
        }
    }

    private static void words(String text) {
        String code = text.replaceAll("(?s)/\\*.*?\\*/", "").replaceAll("//[^\n]*", "");
        for (String word : List.of("throw", "throws", "try", "catch", "synchronized", "assert", "package", "String",
            "Object", "var", "equals", "hashCode", "toString", "Random", "Thread", "double", "float")) {
            must(!Pattern.compile("\\b" + word + "\\b").matcher(code).find(), "no " + word);
        }
        must(!code.contains("->") && !code.contains("::"), "no lambda, no method reference");
        Matcher imports = Pattern.compile("import ([^;]+);").matcher(code);
        while (imports.find()) {
            must(imports.group(1).equals("java.util.Arrays"), "import " + imports.group(1));
        }
        Matcher library = Pattern.compile("\\b(Math|Integer|Long|Arrays|System)\\.(\\w+)").matcher(code);
        while (library.find()) {
            must(List.of("max", "min", "abs", "compare", "numberOfLeadingZeros", "fill").contains(library.group(2)),
                library.group());
        }
    }

    public static void main(String[] args) throws Exception {
        face();
        words(Files.readString(Path.of("src/main/java/MensuralRows.java")));
        System.out.println(wrong == 0 ? "face and language are as told" : wrong + " wrong");
        if (wrong != 0) {
            System.exit(1);
        }
    }
}
