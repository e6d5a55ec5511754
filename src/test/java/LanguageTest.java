import java.io.IOException;
import java.lang.reflect.Constructor;
import java.lang.reflect.Field;
import java.lang.reflect.Method;
import java.lang.reflect.Modifier;
import java.nio.file.Files;
import java.nio.file.Path;
import java.util.ArrayList;
import java.util.Arrays;
import java.util.List;
import java.util.Set;
import java.util.TreeSet;
import java.util.regex.Matcher;
import java.util.regex.Pattern;

/** What LANGUAGE.md asks of the class, as far as it can be seen in its text and by reflection. */
final class LanguageTest {
    private static final Path SOURCE = Path.of("src/main/java/ConnectionFamily.java");
    private static final Path DOCUMENT = Path.of("../shared/DOC.md");
    private static final int MOST_LINES = 60, MOST_CLASSES = 12, MOST_FIELDS = 20, MOST_PARAMETERS = 7;
    private static final Check CHECK = new Check();
    private static final Pattern METHOD = Pattern.compile("    public (\\w+) (\\w+)\\((.*)\\);");
    private static final Pattern CONSTANT = Pattern.compile("([A-Z]+) = (-?\\d+)");

    private LanguageTest() {
    }

    public static void main(String[] args) throws IOException, IllegalAccessException {
        String source = Files.readString(SOURCE);
        String promisedFace = faceOfTheDocument();
        methodsOfTheFace(promisedFace);
        constantsOfTheFace(promisedFace);
        nestedClasses();
        names(promisedFace);
        words(withoutComments(source));
        lengths(source);
        CHECK.end();
    }

    private static String faceOfTheDocument() throws IOException {
        String text = Files.readString(DOCUMENT);
        int begin = text.indexOf("```java");
        int end = text.indexOf("```", begin + 3);
        CHECK.holds("the document shows the face", begin >= 0 && end > begin);
        return text.substring(begin, end);
    }

    private static Set<String> promisedMethods(String promisedFace) {
        Set<String> found = new TreeSet<>();
        Matcher method = METHOD.matcher(promisedFace);
        while (method.find()) {
            String types = method.group(3).replaceAll(" \\w+(,|$)", "$1").replace(", ", ",");
            found.add(method.group(2) + "(" + types + ")" + method.group(1));
        }
        CHECK.due("methods of the document", found.size(), 26);
        return found;
    }

    private static List<Class<?>> allClasses() {
        List<Class<?>> all = new ArrayList<>(Arrays.asList(ConnectionFamily.class.getDeclaredClasses()));
        all.add(ConnectionFamily.class);
        return all;
    }

    private static void methodsOfTheFace(String promisedFace) {
        Class<?> face = ConnectionFamily.class;
        CHECK.holds("the class is public and final", face.getModifiers() == (Modifier.PUBLIC | Modifier.FINAL));
        Set<String> seen = new TreeSet<>();
        for (Method method : face.getDeclaredMethods()) {
            if (!Modifier.isPrivate(method.getModifiers())) {
                CHECK.holds(method + " is public only", method.getModifiers() == Modifier.PUBLIC);
                seen.add(signature(method));
            }
        }
        Set<String> promised = promisedMethods(promisedFace);
        CHECK.holds("the public methods " + seen + " are those of the document: " + promised, seen.equals(promised));
        Constructor<?>[] constructors = face.getDeclaredConstructors();
        CHECK.due("constructors", constructors.length, 1);
        CHECK.holds("the constructor", Modifier.isPublic(constructors[0].getModifiers())
            && constructors[0].getParameterCount() == 0 && promisedFace.contains("    public ConnectionFamily();"));
    }

    private static void constantsOfTheFace(String promisedFace) throws IllegalAccessException {
        Set<String> promised = new TreeSet<>();
        Matcher constant = CONSTANT.matcher(promisedFace);
        while (constant.find()) {
            promised.add(constant.group());
        }
        CHECK.due("constants of the document", promised.size(), 4);
        Set<String> seen = new TreeSet<>();
        for (Field field : ConnectionFamily.class.getDeclaredFields()) {
            boolean isStatic = Modifier.isStatic(field.getModifiers());
            CHECK.holds(field + " is final if it is static", !isStatic || Modifier.isFinal(field.getModifiers()));
            if (!Modifier.isPrivate(field.getModifiers())) {
                CHECK.holds(field + " is a constant of int", isStatic && Modifier.isPublic(field.getModifiers())
                    && field.getType() == int.class);
                seen.add(field.getName() + " = " + field.get(null));
            }
        }
        CHECK.holds("the constants " + seen + " are those of the document: " + promised, seen.equals(promised));
    }

    private static String signature(Method method) {
        StringBuilder text = new StringBuilder(method.getName()).append('(');
        for (Class<?> type : method.getParameterTypes()) {
            text.append(text.charAt(text.length() - 1) == '(' ? "" : ",").append(type.getName());
        }
        return text.append(')').append(method.getReturnType().getName()).toString();
    }

    private static void nestedClasses() {
        CHECK.holds("not too many classes", allClasses().size() <= MOST_CLASSES);
        for (Class<?> one : ConnectionFamily.class.getDeclaredClasses()) {
            int modifiers = one.getModifiers();
            CHECK.holds(one + " is static, and not public", Modifier.isStatic(modifiers)
                && !Modifier.isPublic(modifiers) && !Modifier.isProtected(modifiers));
        }
        for (Class<?> one : allClasses()) {
            long fields = Arrays.stream(one.getDeclaredFields()).filter(f -> !Modifier.isStatic(f.getModifiers())).count();
            CHECK.holds(one + " has not too many fields", fields <= MOST_FIELDS);
        }
    }

    private static void names(String promisedFace) {
        Set<String> taken = new TreeSet<>();
        for (String signature : promisedMethods(promisedFace)) {
            taken.add(signature.substring(0, signature.indexOf('(')));
        }
        for (Class<?> one : allClasses()) {
            for (Method method : one.getDeclaredMethods()) {
                CHECK.holds(method + " has few parameters", method.getParameterCount() <= MOST_PARAMETERS);
                CHECK.holds(method + " has a name of its own",
                    Modifier.isPublic(method.getModifiers()) || !taken.contains(method.getName()));
            }
        }
    }

    private static String withoutComments(String source) {
        return source.replaceAll("(?s)/\\*.*?\\*/", "").replaceAll("//[^\n]*", "");
    }

    private static void words(String code) {
        String[] forbidden = {"\\bthrow\\b", "\\bthrows\\b", "\\btry\\b", "\\bcatch\\b", "\\bsynchronized\\b",
            "\\bassert\\b", "\\bimport\\b", "\\bpackage\\b", "->", "::", "\\bvar\\b", "\\bnative\\b",
            "\\bvolatile\\b", "\\bException\\b", "\\bObject\\b", "\\bdouble\\b", "\\bfloat\\b", "while \\(true\\)",
            "for \\(;;\\)", "static \\{", "\\w+Exact\\b"};
        for (String word : forbidden) {
            CHECK.holds("no " + word, !Pattern.compile(word).matcher(code).find());
        }
        Set<String> allowed = Set.of("Math.max", "Math.min", "Math.abs", "Math.floorMod", "System.arraycopy");
        Matcher calls = Pattern.compile("\\b(Math|System|Arrays|Integer|Long|String)\\.\\w+").matcher(code);
        while (calls.find()) {
            CHECK.holds(calls.group() + " is in the library", allowed.contains(calls.group()));
        }
    }

    /** A method begins with a line that ends in "{" behind a "(", at the depth of members, and ends with its brace. */
    private static void lengths(String source) {
        int begin = -1;
        String end = "";
        String[] lines = source.split("\n");
        for (int i = 0; i < lines.length; i++) {
            CHECK.holds("line " + (i + 1) + " is not too long", lines[i].length() <= 120);
            Matcher head = Pattern.compile("^(    |        )[a-zA-Z].*\\) \\{$").matcher(lines[i]);
            if (begin < 0 && head.matches()) {
                begin = i;
                end = head.group(1) + "}";
            } else if (begin >= 0 && lines[i].equals(end)) {
                CHECK.holds("the method of line " + (begin + 1) + " is short", i - begin < MOST_LINES);
                begin = -1;
            }
        }
    }
}
