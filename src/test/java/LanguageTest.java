import java.io.IOException;
import java.lang.reflect.Executable;
import java.lang.reflect.Field;
import java.lang.reflect.Modifier;
import java.nio.file.Files;
import java.nio.file.Path;
import java.util.ArrayList;
import java.util.List;
import java.util.Set;
import java.util.regex.Matcher;
import java.util.regex.Pattern;

/** The rules of LANGUAGE.md that can be seen in the source or in the compiled classes; FaceTest looks at rule 1. */
public final class LanguageTest {
    private static final Set<Class<?>> NUMBERS = Set.of(int.class, long.class, short.class, byte.class, char.class,
            boolean.class, double.class, float.class);
    private static final Set<Class<?>> CONSTANTS = Set.of(int.class, long.class, boolean.class, char.class,
            String.class, int[].class, long[].class, char[].class, byte[].class);
    private static final Set<Class<?>> ENUM_FIELDS = Set.of(int.class, long.class, boolean.class, String.class);

    public static void main(String[] args) throws IOException {
        String source = Files.readString(Path.of("src/main/java/TileFactory.java"));
        List<Class<?>> classes = new ArrayList<>();
        collect(TileFactory.class, classes);
        Checks.same("rule 11: at most 12 classes", Math.max(classes.size(), 12), 12);
        for (Class<?> type : classes) {
            rules2To5Fields(type);
            rule11Parameters(type);
        }
        String code = withoutTexts(source);
        rule4Library(code);
        rule6Exceptions(code);
        rules2And6And10Words(code);
        rule11Lengths(source);
        Checks.same("rule 4: signs 1 to 127", source.chars().filter(sign -> sign > 127).count(), 0);
        Checks.finish();
    }

    private static void collect(Class<?> type, List<Class<?>> found) {
        found.add(type);
        for (Class<?> inside : type.getDeclaredClasses()) {
            collect(inside, found);
        }
    }

    private static boolean isOwn(Class<?> type) {
        return type.getName().startsWith("TileFactory");
    }

    private static void holds(String what, boolean good) {
        Checks.same(what, good ? 1 : 0, 1);
    }

    private static void rules2To5Fields(Class<?> type) {
        int fields = 0;
        for (Field field : type.getDeclaredFields()) {
            if (Modifier.isStatic(field.getModifiers())) {
                holds("rule 5: " + field + " is final", Modifier.isFinal(field.getModifiers()));
                holds("rule 5: type of " + field, isConstant(field));
            } else {
                fields++;
                holds("rule 3: type of " + field, isAllowed(field.getType()));
                holds("rule 2: type of " + field, !type.isEnum() || ENUM_FIELDS.contains(field.getType()));
            }
        }
        Checks.same("rule 11: at most 20 fields in " + type, Math.max(fields, 20), 20);
    }

    private static boolean isConstant(Field field) {
        Class<?> type = field.getType();
        boolean isValues = type.isArray() && type.getComponentType().isEnum();
        return CONSTANTS.contains(type) || field.isEnumConstant() || isValues;
    }

    private static boolean isAllowed(Class<?> type) {
        if (type.isArray()) {
            Class<?> part = type.getComponentType();
            boolean isOfNumberRows = part.isArray() && NUMBERS.contains(part.getComponentType());
            return NUMBERS.contains(part) || isOwn(part) && !part.isArray() || isOfNumberRows;
        }
        return NUMBERS.contains(type) || isOwn(type)
                || Set.of(String.class, StringBuilder.class, ArrayList.class, List.class).contains(type);
    }

    private static void rule11Parameters(Class<?> type) {
        List<Executable> members = new ArrayList<>(List.of(type.getDeclaredMethods()));
        members.addAll(List.of(type.getDeclaredConstructors()));
        for (Executable member : members) {
            Checks.same("rule 11: " + member, Math.max(member.getParameterCount(), 7), 7);
        }
    }

    /** The code alone: each text is left empty, and comments are gone. */
    private static String withoutTexts(String source) {
        return source.replaceAll("\"[^\"\n]*\"", "\"\"").replaceAll("'[^'\n]*'", "' '")
                .replaceAll("(?s)/\\*.*?\\*/", "").replaceAll("//[^\n]*", "");
    }

    private static void rule4Library(String code) {
        everyMatchIs("rule 4: library", code, "\\b(?:Math|System|Arrays|Integer|Long)\\.(\\w+)",
                "floorDiv|floorMod|min|max|abs|bitCount|compare|arraycopy|copyOf|copyOfRange|fill|MAX_VALUE|MIN_VALUE");
        everyMatchIs("rule 4: import", code, "\\bimport\\s+([^;]+);",
                "java\\.util\\.(ArrayList|List|Arrays|Iterator|NoSuchElementException)");
        everyMatchIs("rule 4: made", code, "\\bnew\\s+(\\w+)", "int|long|short|byte|char|boolean|double|float|String"
                + "|StringBuilder|ArrayList|(IllegalState|IllegalArgument|IndexOutOfBounds|Arithmetic"
                + "|UnsupportedOperation|NoSuchElement|Runtime)Exception|" + ownNames());
        everyMatchIs("rule 4: package", code, "^\\s*(package)\\b", "");
    }

    private static String ownNames() {
        List<Class<?>> classes = new ArrayList<>();
        collect(TileFactory.class, classes);
        List<String> names = new ArrayList<>();
        for (Class<?> type : classes) {
            names.add(type.getSimpleName());
        }
        return String.join("|", names);
    }

    private static void rule6Exceptions(String code) {
        everyMatchIs("rule 6: throw", code, "\\bthrow\\b\\s*([^;]*);",
                "new (IllegalState|IllegalArgument|IndexOutOfBounds|Arithmetic|UnsupportedOperation|NoSuchElement"
                + "|Runtime)Exception\\((\"\")?\\)");
        everyMatchIs("what the machine throws is not caught", code, "\\bcatch\\s*\\(([^)]*)\\)",
                "(IllegalState|IllegalArgument|UnsupportedOperation|NoSuchElement)Exception \\w+");
    }

    private static void rules2And6And10Words(String code) {
        everyMatchIs("rule 2, 6 or 10: word", code,
                "(->|::|\\b(?:finally|synchronized|assert|volatile|native|hashCode|toString|Thread|Random)\\b)", "");
        everyMatchIs("rule 10: texts joined by +", code, "(\"\"\\s*\\+|\\+=?\\s*\"\")", "");
        everyMatchIs("rule 5: static block", code, "\\b(static\\s*\\{)", "");
    }

    private static void everyMatchIs(String what, String code, String pattern, String allowed) {
        Matcher matcher = Pattern.compile(pattern).matcher(code);
        while (matcher.find()) {
            String found = matcher.group(1);
            holds(what + ": " + found, !allowed.isEmpty() && found.matches(allowed));
        }
    }

    /** A method ends with the first brace that stands as far to the right as its first line. */
    private static void rule11Lengths(String source) {
        String[] lines = source.split("\n");
        for (int first = 0; first < lines.length; first++) {
            Matcher head = Pattern.compile("( {4}| {8})[A-Za-z][^;=]*\\(.*").matcher(lines[first]);
            if (head.matches() && !lines[first].endsWith(";")) {
                int last = first;
                while (last < lines.length - 1 && !lines[last].equals(head.group(1) + "}")) {
                    last++;
                }
                Checks.same("rule 11: 60 lines from line " + (first + 1), Math.max(last - first + 1, 60), 60);
            }
        }
    }
}
