import java.io.IOException;
import java.lang.reflect.Field;
import java.lang.reflect.Method;
import java.lang.reflect.Modifier;
import java.nio.charset.StandardCharsets;
import java.nio.file.Files;
import java.nio.file.Path;
import java.util.ArrayList;
import java.util.Arrays;
import java.util.HashMap;
import java.util.HashSet;
import java.util.List;
import java.util.Map;
import java.util.Set;
import java.util.regex.Matcher;
import java.util.regex.Pattern;

/** The rules of LANGUAGE.md that can be read from the class and its source. Started in the folder of the checkout. */
public final class LanguageTest {
    private static final Path SOURCE = Path.of("src", "main", "java", "MillComplaints.java");
    private static final Set<String> TYPES = new HashSet<>(Arrays.asList("void", "int", "long", "short", "byte", "char",
        "boolean", "double", "float", "java.lang.String", "java.lang.StringBuilder", "java.lang.Integer",
        "java.util.ArrayList", "java.util.List"));
    private static final Set<String> TYPES_OF_CONSTANTS = new HashSet<>(Arrays.asList("int", "long", "boolean", "char",
        "java.lang.String", "int[]", "long[]", "char[]", "byte[]"));
    private static final String[] RULED_OUT = {"->", "::", "\\bfinally\\b", "\\bsynchronized\\b", "\\bassert\\b",
        "\\bpackage\\b", "\\bstatic \\{", "Exact\\(", "\\bcatch\\b", "\\bthrows?\\b", "\\bSystem\\.(?!arraycopy)",
        "\\bMath\\.random", "\\bNaN\\b", "\\bgetClass\\b", "\\bhashCode\\b", "\\btoString\\b",
        "import (?!java\\.util\\.(ArrayList|List|Arrays|Iterator|NoSuchElementException);)"};
    private static final Pattern METHOD =
        Pattern.compile("^( {4}| {8})(?:(?:public|private|static|final) )*(?:[\\w\\[\\]]+ )?(\\w+)\\([^;=]*\\) \\{$");
    private static final Pattern CALL = Pattern.compile("(\\bnew |\\b[A-Z]\\w*\\.)?\\b(\\w+)\\(");
    private static final Set<String> WORDS_AHEAD_OF_A_BRACKET =
        new HashSet<>(Arrays.asList("if", "for", "while", "switch", "return", "catch"));

    public static void main(String[] args) throws IOException {
        List<Class<?>> classes = new ArrayList<>();
        collect(MillComplaints.class, classes);
        Due.due("rule 11: at most some twelve classes", classes.size() <= 12 ? 1 : 0, 1);
        for (Class<?> type : classes) {
            classInside(type);
            fieldsOf(type);
            methodsOf(type);
        }
        List<String> lines = Files.readAllLines(SOURCE, StandardCharsets.UTF_8);
        signsAndWords(lines);
        methodsInTheSource(lines);
        Due.end();
    }

    private static void collect(Class<?> type, List<Class<?>> classes) {
        classes.add(type);
        for (Class<?> inside : type.getDeclaredClasses()) {
            collect(inside, classes);
        }
    }

    /** Rule 1: the classes inside are private or package-visible and static. */
    private static void classInside(Class<?> type) {
        if (type != MillComplaints.class) {
            int modifiers = type.getModifiers();
            boolean isOpen = Modifier.isPublic(modifiers) || Modifier.isProtected(modifiers);
            Due.due("rule 1: " + type, !isOpen && Modifier.isStatic(modifiers) ? 1 : 0, 1);
        }
    }

    /** Rules 3, 5 and 11: types of fields, static fields, some twenty fields at most. */
    private static void fieldsOf(Class<?> type) {
        int fields = 0;
        for (Field field : type.getDeclaredFields()) {
            String name = field.getType().getTypeName();
            if (Modifier.isStatic(field.getModifiers())) {
                Due.due("rule 5: final " + field, Modifier.isFinal(field.getModifiers()) ? 1 : 0, 1);
                Due.due("rule 5: type of " + field, TYPES_OF_CONSTANTS.contains(name) ? 1 : 0, 1);
            } else {
                fields++;
                dueType("field " + field, field.getType());
            }
        }
        Due.due("rule 11: at most some twenty fields in " + type, fields <= 20 ? 1 : 0, 1);
    }

    /** Rules 3 and 11: types of parameters and answers, at most seven parameters. */
    private static void methodsOf(Class<?> type) {
        for (Method method : type.getDeclaredMethods()) {
            Due.due("rule 11: parameters of " + method, method.getParameterCount() <= 7 ? 1 : 0, 1);
            dueType("answer of " + method, method.getReturnType());
            for (Class<?> parameter : method.getParameterTypes()) {
                dueType("parameter of " + method, parameter);
            }
        }
    }

    private static void dueType(String of, Class<?> type) {
        Class<?> core = type;
        int dimensions = 0;
        while (core.isArray()) {
            core = core.getComponentType();
            dimensions++;
        }
        boolean isOwn = core.getName().startsWith("MillComplaints");
        boolean isAllowed = isOwn || TYPES.contains(core.getTypeName());
        int most = core.isPrimitive() ? 2 : isOwn ? 1 : 0;
        Due.due("rule 3: " + of, isAllowed && dimensions <= most ? 1 : 0, 1);
    }

    /** Rules 3 to 6, 10 and 13: signs 1 to 127; what is ruled out by a word stands nowhere. */
    private static void signsAndWords(List<String> lines) {
        for (int number = 0; number < lines.size(); number++) {
            String line = lines.get(number);
            for (int index = 0; index < line.length(); index++) {
                char sign = line.charAt(index);
                Due.due("rule 4: a sign in line " + (number + 1), sign >= 1 && sign <= 127 ? 1 : 0, 1);
            }
            for (String word : RULED_OUT) {
                boolean isThere = Pattern.compile(word).matcher(code(line)).find();
                Due.due("ruled out: " + word + " in line " + (number + 1), isThere ? 1 : 0, 0);
            }
        }
    }

    /** A line of the source without its comment. No text of the class holds the signs of a comment. */
    private static String code(String line) {
        String trimmed = line.trim();
        if (trimmed.startsWith("/*") || trimmed.startsWith("*")) {
            return "";
        }
        int comment = line.indexOf("//");
        return comment < 0 ? line : line.substring(0, comment);
    }

    /** Rule 11: some sixty lines a method, and calls at most eight deep; methods of one name are taken for one. */
    private static void methodsInTheSource(List<String> lines) {
        Map<String, Set<String>> calls = new HashMap<>();
        for (int number = 0; number < lines.size(); number++) {
            Matcher method = METHOD.matcher(lines.get(number));
            if (method.matches()) {
                int last = lineOf(method.group(1) + "}", lines, number);
                Due.due("rule 11: lines of " + method.group(2), last - number <= 60 ? 1 : 0, 1);
                Set<String> called = calls.computeIfAbsent(method.group(2), name -> new HashSet<>());
                for (int inside = number + 1; inside < last; inside++) {
                    addCalls(code(lines.get(inside)), called);
                }
                number = last;
            }
        }
        Due.due("all methods of the face are read", calls.keySet().containsAll(faceNames()) ? 1 : 0, 1);
        for (String name : faceNames()) {
            Due.due("rule 11: depth of the calls from " + name, depth(name, calls, 0) <= 8 ? 1 : 0, 1);
        }
    }

    private static int lineOf(String line, List<String> lines, int from) {
        int number = from;
        while (number < lines.size() - 1 && !lines.get(number).equals(line)) {
            number++;
        }
        return number;
    }

    private static void addCalls(String line, Set<String> called) {
        Matcher call = CALL.matcher(line);
        while (call.find()) {
            if (!WORDS_AHEAD_OF_A_BRACKET.contains(call.group(2))) {
                called.add(call.group(2));
            }
        }
    }

    private static Set<String> faceNames() {
        Set<String> names = new HashSet<>();
        for (Method method : MillComplaints.class.getMethods()) {
            if (method.getDeclaringClass() == MillComplaints.class) {
                names.add(method.getName());
            }
        }
        return names;
    }

    /** How many calls stand open at most, this one too; one of the library is the last. Beyond 20 it is a recursion. */
    private static int depth(String name, Map<String, Set<String>> calls, int above) {
        int deepest = 0;
        if (above < 20) {
            for (String called : calls.getOrDefault(name, Set.of())) {
                deepest = Math.max(deepest, depth(called, calls, above + 1));
            }
        }
        return deepest + 1;
    }
}
