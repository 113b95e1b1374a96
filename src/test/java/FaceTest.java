import java.lang.reflect.Constructor;
import java.lang.reflect.Field;
import java.lang.reflect.Method;
import java.lang.reflect.Modifier;
import java.util.TreeSet;

/** The class has just the face of the document: no member more, none less. */
public final class FaceTest {
    private static final String ARGUMENT = "IllegalArgumentException";
    private static final String STATE = "IllegalStateException";
    private static final String INDEX = "IndexOutOfBoundsException";

    private static final String[] FACE = {
        "int spaces()", "int setRule(int,int) " + ARGUMENT,
        "int setCapacity(int,int) " + INDEX + " " + ARGUMENT,
        "int addCar(int) " + ARGUMENT + " " + STATE,
        "int setPreference(int,int) " + INDEX + " " + ARGUMENT,
        "int removeCar() " + STATE, "int clearCars()", "int cars()",
        "int preference(int) " + INDEX, "int spaceOf(int) " + INDEX, "int steps(int) " + INDEX,
        "int carsIn(int) " + INDEX, "int defect()", "int firstLeaving()", "int lucky()",
        "int displacement()", "int countDefect(int,int) " + ARGUMENT + " " + STATE,
        "int countLucky(int,int) " + ARGUMENT + " " + STATE,
        "int countSum(int,int) " + ARGUMENT + " " + STATE, "int rank() " + STATE,
        "int setRank(int,int) " + ARGUMENT + " " + STATE, "int arrangements()",
        "int parkingArrangements()", "boolean nextArrangement()", "boolean isStandard()",
        "boolean isPrime()", "int gap() " + STATE, "int shift() " + STATE,
        "int label(int) " + INDEX + " " + STATE, "int areaOf(int) " + INDEX + " " + STATE,
        "int area() " + STATE, "int inversions() " + STATE,
        "int word(int) " + INDEX + " " + STATE, "int pathChar(int) " + INDEX + " " + STATE,
        "int type(int) " + ARGUMENT + " " + STATE, "int clearText()", "int readPath()",
        "int undo() " + STATE, "long fingerprint()",
    };

    public static void main(String[] args) {
        Check check = new Check("FaceTest");
        TreeSet<String> due = new TreeSet<>();
        for (String line : FACE) {
            due.add(line);
        }
        TreeSet<String> got = new TreeSet<>();
        for (Method method : ParkingRules.class.getDeclaredMethods()) {
            if (!Modifier.isPrivate(method.getModifiers())) {
                got.add(lineOf(method));
            }
        }
        check.same("the methods", due.toString(), got.toString());
        Constructor<?>[] constructors = ParkingRules.class.getDeclaredConstructors();
        check.same("the constructor", "[public ParkingRules(int)]",
            java.util.Arrays.toString(constructors));
        for (Field field : ParkingRules.class.getDeclaredFields()) {
            check.same("field " + field.getName() + " is private", "true",
                Boolean.toString(Modifier.isPrivate(field.getModifiers())));
        }
        check.same("the class", "public final",
            Modifier.toString(ParkingRules.class.getModifiers()));
        privateNames(check);
        sizes(check, ParkingRules.class);
        for (Class<?> inside : ParkingRules.class.getDeclaredClasses()) {
            check.same(inside.getName() + " is private and static", "true",
                "" + (Modifier.isPrivate(inside.getModifiers())
                    && Modifier.isStatic(inside.getModifiers())));
            sizes(check, inside);
        }
        check.end();
    }

    /** LANGUAGE.md, rule 1: no private method bears the name of a public one. */
    private static void privateNames(Check check) {
        TreeSet<String> names = new TreeSet<>();
        for (Method method : ParkingRules.class.getDeclaredMethods()) {
            if (Modifier.isPublic(method.getModifiers())) {
                names.add(method.getName());
            }
        }
        for (Method method : ParkingRules.class.getDeclaredMethods()) {
            if (!Modifier.isPublic(method.getModifiers())) {
                check.same(method.getName() + " is the name of a public method", "false",
                    "" + names.contains(method.getName()));
            }
        }
    }

    /** LANGUAGE.md, rules 5 and 11: few fields and parameters, static fields are final. */
    private static void sizes(Check check, Class<?> type) {
        int fields = 0;
        for (Field field : type.getDeclaredFields()) {
            if (Modifier.isStatic(field.getModifiers())) {
                check.same(field.getName() + " is final", "true",
                    "" + Modifier.isFinal(field.getModifiers()));
            } else {
                fields++;
            }
        }
        check.same(type.getName() + " has few fields", "true", "" + (fields <= 20));
        for (Method method : type.getDeclaredMethods()) {
            check.same(method.getName() + " takes few parameters", "true",
                "" + (method.getParameterCount() <= 7));
        }
    }

    private static String lineOf(Method method) {
        StringBuilder line = new StringBuilder();
        line.append(method.getReturnType().getName()).append(' ').append(method.getName());
        line.append('(');
        for (Class<?> type : method.getParameterTypes()) {
            line.append(line.charAt(line.length() - 1) == '(' ? "" : ",").append(type.getName());
        }
        line.append(')');
        for (Class<?> exception : method.getExceptionTypes()) {
            line.append(' ').append(exception.getSimpleName());
        }
        if (!Modifier.isPublic(method.getModifiers())) {
            line.append(" is not public");
        }
        return line.toString();
    }
}
