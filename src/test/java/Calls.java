import java.lang.reflect.InvocationTargetException;
import java.lang.reflect.Method;
import java.util.Arrays;

/** Calls by their names, on an object of the class or of the model, and what such an object shows. */
final class Calls {
    private static final String[] PLAIN = {
        "spaces", "cars", "defect", "firstLeaving", "lucky", "displacement", "isStandard",
        "isPrime", "gap", "area", "inversions", "fingerprint",
    };
    private static final String[] BY_CAR = {"preference", "spaceOf", "steps"};
    private static final String[] BY_SPACE = {"carsIn", "label", "areaOf", "word"};

    private Calls() {
    }

    /** What the call answers: its number, true or false, or the exception that it throws. */
    static String answer(Object on, String name, int... arguments) {
        Class<?>[] types = new Class<?>[arguments.length];
        Arrays.fill(types, int.class);
        Object[] values = Arrays.stream(arguments).boxed().toArray();
        try {
            Method method = on.getClass().getDeclaredMethod(name, types);
            return String.valueOf(method.invoke(on, values));
        } catch (InvocationTargetException e) {
            return e.getCause().getClass().getSimpleName();
        } catch (ReflectiveOperationException e) {
            throw new IllegalStateException("no such call: " + name, e);
        }
    }

    /** A line such as "setRule 3 8": a call, or one of the words below that stand for several. */
    static String line(Object on, String line) {
        String[] parts = line.trim().split(" +");
        switch (parts[0]) {
            case "text":
                return typed(on, line.trim().substring("text ".length()));
            case "list":
                return row(on, "preference", 0, cars(on));
            case "places":
                return row(on, "spaceOf", 0, cars(on));
            case "looked":
                return row(on, "steps", 0, cars(on));
            case "labels":
                return row(on, "label", 0, spaces(on));
            case "areas":
                return row(on, "areaOf", 0, spaces(on));
            case "words":
                return row(on, "word", 0, spaces(on));
            case "path":
                return row(on, "pathChar", 0, 3 * spaces(on));
            default:
                return answer(on, parts[0], numbers(parts));
        }
    }

    private static int[] numbers(String[] parts) {
        int[] numbers = new int[parts.length - 1];
        for (int i = 1; i < parts.length; i++) {
            numbers[i - 1] = switch (parts[i]) {
                case "LEAST" -> Integer.MIN_VALUE;
                case "MOST" -> Integer.MAX_VALUE;
                default -> Integer.parseInt(parts[i]);
            };
        }
        return numbers;
    }

    private static String typed(Object on, String text) {
        String last = "";
        for (char c : text.replace('_', ' ').toCharArray()) {
            last = answer(on, "type", c);
        }
        return last;
    }

    /** Answers beside each other: -1 as "-", codes of characters as characters. */
    private static String row(Object on, String name, int from, int to) {
        StringBuilder row = new StringBuilder("'");
        for (int i = from; i < to; i++) {
            String answer = answer(on, name, i);
            if (answer.endsWith("Exception")) {
                return answer;
            }
            boolean code = name.equals("pathChar");
            row.append(code ? "" + (char) Integer.parseInt(answer) : answer.replace("-1", "-"));
        }
        return row.append("'").toString();
    }

    static int cars(Object on) {
        return Integer.parseInt(answer(on, "cars"));
    }

    static int spaces(Object on) {
        return Integer.parseInt(answer(on, "spaces"));
    }

    /** All that the object shows without being changed, one number beyond each end too. */
    static String shown(Object on) {
        StringBuilder shown = new StringBuilder();
        for (String name : PLAIN) {
            shown.append(name).append(' ').append(answer(on, name)).append("; ");
        }
        for (String name : BY_CAR) {
            range(shown, on, name, cars(on));
        }
        for (String name : BY_SPACE) {
            range(shown, on, name, spaces(on));
        }
        range(shown, on, "pathChar", 3 * spaces(on));
        return shown.toString();
    }

    private static void range(StringBuilder shown, Object on, String name, int length) {
        shown.append(name);
        for (int i = -1; i <= length; i++) {
            shown.append(' ').append(answer(on, name, i));
        }
        shown.append("; ");
    }

    /** Uses the object up: what its text reads as, and how long it was. */
    static String text(Object on) {
        String read = answer(on, "readPath");
        String list = line(on, "list");
        return "readPath " + read + (read.startsWith("-") ? "" : " " + list)
            + "; clearText " + answer(on, "clearText");
    }

    /** Uses the object up: its states, the latest first. */
    static String states(Object on) {
        StringBuilder states = new StringBuilder();
        String left = answer(on, "undo");
        while (!left.endsWith("Exception")) {
            states.append(answer(on, "fingerprint")).append(' ');
            left = answer(on, "undo");
        }
        return states.append(left).toString();
    }
}
