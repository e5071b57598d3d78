import java.io.IOException;
import java.lang.reflect.Constructor;
import java.lang.reflect.Field;
import java.lang.reflect.Method;
import java.lang.reflect.Modifier;
import java.nio.file.Files;
import java.nio.file.Path;
import java.util.Arrays;
import java.util.List;
import java.util.Set;
import java.util.TreeSet;
import java.util.regex.Matcher;
import java.util.regex.Pattern;

/** What can be told of LANGUAGE.md's rules from the source and from the compiled class. */
public final class LanguageTest {
    private static final String FACE = "bag feed valley told stage worker row of draw next run by first before"
        + " orders mean today whatever most put pass cover right book likely judged other same act trace as image"
        + " undo count";
    private static final List<String> CONSTANTS = Arrays.asList("NONE", "BAD", "STATE", "FULL", "NO");
    private static int wrong = 0;

    public static void main(String[] args) throws IOException {
        String source = Files.readString(Path.of("src/main/java/DaysBag.java"));
        face();
        nested();
        words(bare(source));
        lengths(source);
        System.out.println(wrong == 0 ? "the rules are kept" : wrong + " rules are not kept");
        if (wrong != 0) {
            System.exit(1);
        }
    }

    private static void rule(boolean kept, String what) {
        if (!kept) {
            wrong++;
            System.out.println(what);
        }
    }

    private static void face() {
        Set<String> names = new TreeSet<>();
        for (Method method : DaysBag.class.getDeclaredMethods()) {
            if (!Modifier.isPrivate(method.getModifiers()) && !method.isSynthetic()) {
                names.add(method.getName());
                rule(Modifier.isPublic(method.getModifiers()), method + " is not public");
            }
        }
        rule(names.equals(new TreeSet<>(Arrays.asList(FACE.split(" ")))), "the face is " + names);
        for (Field field : DaysBag.class.getDeclaredFields()) {
            boolean constant = CONSTANTS.contains(field.getName());
            rule(constant == Modifier.isPublic(field.getModifiers()), field + " is seen otherwise");
            rule(constant || Modifier.isPrivate(field.getModifiers()), field + " is not private");
        }
        for (Constructor<?> maker : DaysBag.class.getDeclaredConstructors()) {
            rule(Modifier.isPublic(maker.getModifiers()) && maker.getParameterCount() == 0, maker + " is in the face");
        }
        rule(Modifier.isFinal(DaysBag.class.getModifiers()), "the class is not final");
    }

    private static void nested() {
        Class<?>[] classes = DaysBag.class.getDeclaredClasses();
        rule(classes.length < 12, "classes: " + (classes.length + 1));
        List<String> face = Arrays.asList(FACE.split(" "));
        ofClass(DaysBag.class, face, true);
        for (Class<?> one : classes) {
            rule(Modifier.isStatic(one.getModifiers()), one + " is not static");
            rule(!Modifier.isPublic(one.getModifiers()), one + " is public");
            ofClass(one, face, false);
        }
    }

    private static void ofClass(Class<?> one, List<String> face, boolean outer) {
        int fields = 0;
        for (Field field : one.getDeclaredFields()) {
            boolean fixed = Modifier.isStatic(field.getModifiers());
            fields += fixed ? 0 : 1;
            rule(!fixed || Modifier.isFinal(field.getModifiers()), field + " is static and not final");
        }
        rule(fields <= 20, one + " has " + fields + " fields");
        for (Method method : one.getDeclaredMethods()) {
            rule(method.getParameterCount() <= 7, method + " takes too many");
            boolean ofFace = outer && Modifier.isPublic(method.getModifiers());
            rule(ofFace || !face.contains(method.getName()), method + " bears a name of the face");
        }
    }

    /** Without comments and texts. */
    private static String bare(String source) {
        return source.replaceAll("(?s)/\\*.*?\\*/", "").replaceAll("//[^\n]*", "")
            .replaceAll("\"[^\"\n]*\"", "\"\"").replaceAll("'[^'\n]*'", "' '");
    }

    private static void words(String code) {
        String[] barred = {"throw", "throws", "try", "catch", "finally", "synchronized", "assert", "volatile",
            "transient", "native", "Object", "hashCode", "toString", "Random", "Thread", "package", "double",
            "float", "protected"};
        for (String word : barred) {
            rule(!Pattern.compile("\\b" + word + "\\b").matcher(code).find(), "the source has the word " + word);
        }
        for (String sign : new String[] {"->", "::", "@", "Exact(", "\\u"}) {
            rule(!code.contains(sign), "the source has the sign " + sign);
        }
        found(code, "\\bimport ([\\w.*]+);", Set.of("java.util.Arrays"));
        found(code, "\\b(System\\.\\w+)", Set.of("System.arraycopy"));
        found(code, "\\b(Arrays\\.\\w+)", Set.of("Arrays.fill", "Arrays.copyOf", "Arrays.copyOfRange", "Arrays;"));
        found(code, "\\b((?:Math|Integer|Long)\\.\\w+)",
            Set.of("Math.max", "Math.min", "Math.abs", "Long.MIN_VALUE"));
    }

    private static void found(String code, String pattern, Set<String> allowed) {
        Matcher matcher = Pattern.compile(pattern).matcher(code);
        while (matcher.find()) {
            rule(allowed.contains(matcher.group(1)), "the source uses " + matcher.group(1));
        }
    }

    private static void lengths(String source) {
        int began = 0;
        String[] lines = source.split("\n");
        for (int i = 0; i < lines.length; i++) {
            if (lines[i].matches(" {4}( {4})?\\w[^=;]*\\) \\{")) {
                began = i;
            }
            if (lines[i].matches(" {4}( {4})?\\}")) {
                rule(i - began <= 60 || lines[i].matches(" {4}\\}"), "the method at line " + (began + 1) + " is long");
            }
            rule(lines[i].length() <= 120, "line " + (i + 1) + " is long");
        }
    }
}
