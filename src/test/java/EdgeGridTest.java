import java.util.ArrayList;
import java.util.List;

/**
 * Every call of the face with every argument beside an edge, in scenes at the edges (no cars, nine
 * cars, an empty text, a full one, no state, six), against the model: the answer, and what the
 * object shows then.
 */
public final class EdgeGridTest {
    private static final Check check = new Check("EdgeGridTest");

    private static final String[] WITHOUT = {"spaces", "removeCar", "clearCars", "cars", "defect",
        "firstLeaving", "lucky", "displacement", "rank", "arrangements", "parkingArrangements",
        "nextArrangement", "isStandard", "isPrime", "gap", "shift", "area", "inversions",
        "clearText", "readPath", "undo", "fingerprint"};
    private static final String[] WITH_ONE = {"addCar", "preference", "spaceOf", "steps",
        "carsIn", "label", "areaOf", "word", "pathChar", "type"};
    private static final String[] WITH_TWO = {"setRule", "setCapacity", "setPreference",
        "countDefect", "countLucky", "countSum", "setRank"};

    public static void main(String[] args) {
        grid(1);
        grid(1, "addCar 0");
        grid(1, "addCar 0", "text N0E");
        grid(1, "setRule 3 8", "setCapacity 0 3", "addCar 0", "addCar 0", "addCar 0", "addCar 0");
        grid(2, "addCar 1", "addCar 1", "text N0EN1E");
        grid(2, "addCar 0", "addCar 1", "setRule 2 0", "setCapacity 0 0", "text N1N0E");
        grid(2, "addCar 0", "addCar 0", "addCar 1", "addCar 0", "addCar 1", "addCar 0",
            "addCar 1", "addCar 0", "addCar 1");
        grid(3, "addCar 2", "addCar 0", "addCar 0", "setRule 1 1", "text N0N1N2EE", "undo");
        grid(3, "addCar 2", "addCar 2", "setCapacity 1 2", "setRule 3 2",
            "text 1234567890123456789012345678901234567890");
        grid(5, "addCar 0", "addCar 3", "addCar 1", "addCar 0", "addCar 2", "addCar 4", "undo",
            "text N2EN1N4EN0EN3EE");
        grid(8, "setRank 5 100", "addCar 7", "addCar 0", "addCar 7", "setRule 2 8");
        grid(8, "text N0N1N2N3N4N5N6N7EEEEEEEE", "readPath", "setRule 0 8", "setCapacity 7 0",
            "text N0N1N2N3N4N5N6N7EEEEEEEEE");
        check.end();
    }

    private static void grid(int spaces, String... calls) {
        Scene scene = new Scene(spaces, List.of(calls));
        int cars = Calls.cars(scene.model());
        for (String call : WITHOUT) {
            if (cars < 7 || !call.contains("rrangement")) {
                compare(scene, call);
            }
        }
        for (String call : WITH_ONE) {
            for (String argument : arguments(call, spaces, cars)) {
                compare(scene, call + " " + argument);
            }
        }
        for (String call : WITH_TWO) {
            for (String first : arguments(call, spaces, cars)) {
                for (String second : secondArguments(call, spaces)) {
                    compare(scene, call + " " + first + " " + second);
                }
            }
        }
    }

    private static void compare(Scene scene, String call) {
        scene.check(check, "grid", call, scene.dueTo(call));
    }

    private static List<String> arguments(String call, int spaces, int cars) {
        return switch (call) {
            case "addCar", "carsIn", "label", "areaOf", "word", "setCapacity" ->
                around(0, spaces - 1);
            case "preference", "spaceOf", "steps", "setPreference" -> around(0, cars - 1);
            case "pathChar" -> around(0, 3 * spaces - 1);
            case "type" -> around(32, 126);
            case "setRule" -> around(0, 3);
            default -> countable(spaces);
        };
    }

    private static List<String> secondArguments(String call, int spaces) {
        return switch (call) {
            case "setPreference" -> around(0, spaces - 1);
            case "setRule" -> around(0, 8);
            case "setCapacity" -> around(0, 3);
            case "countSum" -> around(0, 63);
            case "setRank" -> List.of("LEAST", "-1", "0", "1", "15", "16", "MOST");
            default -> around(0, 9);
        };
    }

    /** Numbers of cars; of those that can be counted, the ones that are dear for the model not. */
    private static List<String> countable(int spaces) {
        List<String> cars = around(0, 9);
        for (int m = 2; m < 9; m++) {
            if (Math.pow(spaces, m) <= 512 || Math.pow(spaces, m) > 50000) {
                cars.add("" + m);
            }
        }
        if (spaces == 3) {
            cars.remove("9");
        }
        return cars;
    }

    private static List<String> around(int first, int last) {
        List<String> numbers = new ArrayList<>(List.of("LEAST", "MOST"));
        for (int number = first - 1; number <= first + 1; number++) {
            numbers.add("" + number);
        }
        for (int number = Math.max(first + 2, last - 1); number <= last + 1; number++) {
            numbers.add("" + number);
        }
        return numbers;
    }
}
