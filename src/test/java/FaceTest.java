import java.lang.reflect.Constructor;
import java.lang.reflect.Field;
import java.lang.reflect.Method;
import java.lang.reflect.Modifier;
import java.util.TreeSet;

/** The public face and the constants: just those of the document. */
public final class FaceTest {
    private static final String[] METHODS = {
        "int mill(int,int)", "int house(int)", "int wind(int,int,int)", "int set(int,int)", "int doAll()",
        "int complain(int,int,int,int)", "int sue(int,int,int)", "int vote(int,int)",
        "int type(char)", "int clearText()", "int fault()", "int undo()", "int keep()", "int restore()",
        "int yardOf(int,int)", "int millOf(int,int)", "int houseOf(int,int)", "int noise(int,int,int)",
        "int shadow(int,int,int,int)", "int why(int,int,int,int)", "int count(int)", "float ground()",
        "int quietHours(int)", "int loudest(int)", "int bestTied(int)", "int ifVoted(int,int)",
    };
    private static final String[] CONSTANTS = {"UNKNOWN", "BAD_VALUE", "FULL", "NOT_POSSIBLE", "NONE"};

    public static void main(String[] args) {
        Class<?> type = MillComplaints.class;
        Due.due("public final", type.getModifiers(), Modifier.PUBLIC | Modifier.FINAL);
        constants();
        constructors(type);
        methods(type);
        fields(type);
        Due.end();
    }

    private static void constants() {
        Due.due("UNKNOWN", MillComplaints.UNKNOWN, -1);
        Due.due("BAD_VALUE", MillComplaints.BAD_VALUE, -2);
        Due.due("FULL", MillComplaints.FULL, -3);
        Due.due("NOT_POSSIBLE", MillComplaints.NOT_POSSIBLE, -4);
        Due.due("NONE", MillComplaints.NONE, -5);
    }

    private static void constructors(Class<?> type) {
        Constructor<?>[] all = type.getDeclaredConstructors();
        Due.due("constructors", all.length, 1);
        Due.due("parameters of the constructor", all[0].getParameterCount(), 0);
        Due.due("public constructor", all[0].getModifiers(), Modifier.PUBLIC);
    }

    private static void methods(Class<?> type) {
        TreeSet<String> due = new TreeSet<>(java.util.Arrays.asList(METHODS));
        TreeSet<String> publicNames = new TreeSet<>();
        for (Method method : type.getDeclaredMethods()) {
            StringBuilder told = new StringBuilder(method.getReturnType() + " " + method.getName() + "(");
            for (Class<?> parameter : method.getParameterTypes()) {
                told.append(told.charAt(told.length() - 1) == '(' ? "" : ",").append(parameter);
            }
            boolean isPublic = Modifier.isPublic(method.getModifiers());
            if (isPublic) {
                publicNames.add(method.getName());
                Due.due("method of the face: " + told + ")", due.remove(told + ")") ? 1 : 0, 1);
            } else {
                Due.due("private: " + told + ")", Modifier.isPrivate(method.getModifiers()) ? 1 : 0, 1);
            }
        }
        Due.due("methods that are missing: " + due, due.size(), 0);
        for (Method method : type.getDeclaredMethods()) {
            boolean isPrivate = Modifier.isPrivate(method.getModifiers());
            Due.due("private with a public name: " + method, isPrivate && publicNames.contains(method.getName()) ? 1 : 0, 0);
        }
    }

    private static void fields(Class<?> type) {
        TreeSet<String> due = new TreeSet<>(java.util.Arrays.asList(CONSTANTS));
        for (Field field : type.getDeclaredFields()) {
            if (!Modifier.isPrivate(field.getModifiers())) {
                int constant = Modifier.PUBLIC | Modifier.STATIC | Modifier.FINAL;
                Due.due("modifiers of " + field, field.getModifiers(), constant);
                Due.due("constant " + field, due.remove(field.getName()) ? 1 : 0, 1);
            }
        }
        Due.due("constants that are missing: " + due, due.size(), 0);
    }
}
