import java.lang.reflect.Method;
import java.lang.reflect.Modifier;
import java.nio.charset.StandardCharsets;
import java.nio.file.Files;
import java.nio.file.Path;
import java.util.List;
import java.util.TreeSet;
import java.util.regex.Matcher;
import java.util.regex.Pattern;

/** README.md: what it says of answers is what the class answers, and it names every test. */
public final class ReadmeTest {
    private static final Pattern NEW =
        Pattern.compile("ParkingRules x = new ParkingRules\\((-?\\d+)\\);");
    private static final Pattern CALL =
        Pattern.compile("x\\.(\\w+)\\(([^)]*)\\); +// (throws )?([^:]+)(: .*)?");

    private static final Check check = new Check("ReadmeTest");
    private static final TreeSet<String> shown = new TreeSet<>();
    private static ParkingRules x;
    private static Model model;

    public static void main(String[] args) throws Exception {
        List<String> lines = Files.readAllLines(Path.of("README.md"), StandardCharsets.UTF_8);
        boolean inCode = false;
        for (int i = 0; i < lines.size(); i++) {
            String line = lines.get(i);
            if (line.startsWith("```")) {
                inCode = line.equals("```java");
                x = null;
            } else if (inCode) {
                codeLine("line " + (i + 1) + ", " + line, line);
            }
        }
        everyCallIsShown();
        everyTestIsNamed(String.join("\n", lines));
        check.end();
    }

    private static void codeLine(String where, String line) {
        Matcher made = NEW.matcher(line);
        Matcher call = CALL.matcher(line);
        if (made.matches()) {
            x = new ParkingRules(Integer.parseInt(made.group(1)));
            model = new Model(Integer.parseInt(made.group(1)));
        } else if (call.matches() && x != null) {
            String name = call.group(1);
            int[] arguments = numbers(call.group(2));
            shown.add(name);
            check.same(where, call.group(4), Calls.answer(x, name, arguments));
            check.same(where + ", the model", call.group(4), Calls.answer(model, name, arguments));
        } else {
            check.same(where, "an object made, or a call with its answer", "neither");
        }
    }

    private static int[] numbers(String arguments) {
        if (arguments.isEmpty()) {
            return new int[0];
        }
        String[] parts = arguments.split(", ");
        int[] numbers = new int[parts.length];
        for (int i = 0; i < parts.length; i++) {
            numbers[i] = parts[i].matches("'.'") ? parts[i].charAt(1) : Integer.parseInt(parts[i]);
        }
        return numbers;
    }

    private static void everyCallIsShown() {
        TreeSet<String> face = new TreeSet<>();
        for (Method method : ParkingRules.class.getDeclaredMethods()) {
            if (Modifier.isPublic(method.getModifiers())) {
                face.add(method.getName());
            }
        }
        check.same("the calls that are shown", face.toString(), shown.toString());
    }

    private static void everyTestIsNamed(String readme) throws Exception {
        TreeSet<String> named = new TreeSet<>();
        Matcher name = Pattern.compile("`(\\w+Test)`").matcher(readme);
        while (name.find()) {
            named.add(name.group(1) + ".java");
        }
        TreeSet<String> there = new TreeSet<>();
        try (var files = Files.list(Path.of("src/test/java"))) {
            files.map(file -> file.getFileName().toString())
                .filter(file -> file.endsWith("Test.java")).forEach(there::add);
        }
        check.same("the tests that are named", there.toString(), named.toString());
    }
}
