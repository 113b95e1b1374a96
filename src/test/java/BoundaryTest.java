import java.math.BigInteger;
import java.util.List;

/**
 * Each sentence of the document that names a boundary: calls just inside and just outside. Every
 * line is one call and what is due; Scene also looks at what each of them leaves behind.
 */
public final class BoundaryTest {
    private static final Check check = new Check("BoundaryTest");

    public static void main(String[] args) {
        newObject();
        settings();
        cars();
        spacesAreFree();
        sequences();
        parkingCalls();
        countingRanges();
        countingWhereCarsLeave();
        countingIsPossible();
        ranks();
        arrangements();
        standardLists();
        circle();
        paths();
        typing();
        reading();
        wrongTexts();
        history();
        exceptionsInOrder();
        fingerprints();
        check.end();
    }

    /** Lines such as "addCar 3 = ARGUMENT", one after the other on one object. */
    private static void sentence(String title, int spaces, String lines) {
        Scene scene = new Scene(spaces, List.of());
        for (String line : lines.strip().split("\n")) {
            int sign = line.lastIndexOf(" = ");
            String call = line.substring(0, sign).strip();
            scene.check(check, title, call, due(line.substring(sign + 3).strip()));
            scene = scene.behind(call);
        }
    }

    private static String due(String word) {
        return switch (word) {
            case "INDEX" -> "IndexOutOfBoundsException";
            case "ARGUMENT" -> "IllegalArgumentException";
            case "STATE" -> "IllegalStateException";
            default -> word;
        };
    }

    /** Promises 1, 2, and what the description says is so initially. */
    private static void newObject() {
        for (int spaces : new int[] {Integer.MIN_VALUE, -1, 0, 1}) {
            sentence("1: a value less than 1 means 1", spaces, """
                spaces = 1
                addCar 1 = ARGUMENT
                setCapacity 1 1 = INDEX
                addCar 0 = 0
                isStandard = true
                """);
        }
        sentence("1: 2 spaces", 2, """
            spaces = 2
            setCapacity 1 1 = 1
            setCapacity 2 1 = INDEX
            """);
        sentence("1: 7 spaces", 7, """
            spaces = 7
            setCapacity 6 1 = 1
            setCapacity 7 1 = INDEX
            """);
        for (int spaces : new int[] {8, 9, 10, Integer.MAX_VALUE}) {
            sentence("1: a value greater than 8 means 8", spaces, """
                spaces = 8
                addCar 8 = ARGUMENT
                setCapacity 8 1 = INDEX
                addCar 7 = 0
                carsIn 7 = 1
                """);
        }
        sentence("1: without cars; capacities 1, rule 0 and k 0, an empty text, no states", 3, """
            undo = STATE
            clearText = 0
            readPath = -1
            cars = 0
            preference 0 = INDEX
            spaceOf 0 = INDEX
            steps 0 = INDEX
            carsIn 0 = 0
            defect = 0
            firstLeaving = -1
            lucky = 0
            displacement = 0
            removeCar = STATE
            setRule 0 0 = 0
            setCapacity 0 1 = 1
            setCapacity 1 1 = 1
            setCapacity 2 1 = 1
            """);
    }

    /** Promises 3, 4. */
    private static void settings() {
        sentence("3: rule from 0 to 3", 4, """
            setRule -1 0 = ARGUMENT
            setRule LEAST 0 = ARGUMENT
            setRule 4 0 = ARGUMENT
            setRule MOST 0 = ARGUMENT
            setRule 3 0 = 0
            setRule 0 0 = 30
            setRule 0 0 = 0
            """);
        sentence("3: k from 0 to 8; 10 times the previous rule plus its number", 4, """
            setRule 0 -1 = ARGUMENT
            setRule 0 LEAST = ARGUMENT
            setRule 0 9 = ARGUMENT
            setRule 0 MOST = ARGUMENT
            setRule 0 8 = 0
            setRule 3 8 = 8
            setRule 3 9 = ARGUMENT
            setRule 4 8 = ARGUMENT
            setRule 1 1 = 38
            setRule 0 0 = 11
            """);
        sentence("4: a space from 0 to n - 1", 3, """
            setCapacity -1 1 = INDEX
            setCapacity LEAST 1 = INDEX
            setCapacity 3 1 = INDEX
            setCapacity MOST 1 = INDEX
            setCapacity 0 2 = 1
            setCapacity 2 3 = 1
            setCapacity 0 1 = 2
            setCapacity 1 1 = 1
            setCapacity 2 1 = 3
            """);
        sentence("4: a capacity from 0 to 3", 3, """
            setCapacity 1 -1 = ARGUMENT
            setCapacity 1 LEAST = ARGUMENT
            setCapacity 1 4 = ARGUMENT
            setCapacity 1 MOST = ARGUMENT
            setCapacity 1 0 = 1
            setCapacity 1 3 = 0
            setCapacity 1 1 = 3
            """);
    }

    /** Promises 5 to 10. */
    private static void cars() {
        sentence("5: a preference from 0 to n - 1", 4, """
            addCar -1 = ARGUMENT
            addCar LEAST = ARGUMENT
            addCar 4 = ARGUMENT
            addCar MOST = ARGUMENT
            cars = 0
            addCar 3 = 0
            addCar 0 = 1
            list = '30'
            """);
        sentence("5: at most 9 cars", 2, """
            addCar 0 = 0
            addCar 1 = 1
            addCar 0 = 2
            addCar 1 = 3
            addCar 0 = 4
            addCar 1 = 5
            addCar 0 = 6
            addCar 1 = 7
            cars = 8
            addCar 1 = 8
            cars = 9
            addCar 0 = STATE
            cars = 9
            list = '010101011'
            removeCar = 8
            addCar 0 = 8
            addCar 0 = STATE
            """);
        sentence("6: a car of the list", 4, """
            setPreference 0 0 = INDEX
            addCar 3 = 0
            addCar 2 = 1
            setPreference -1 0 = INDEX
            setPreference LEAST 0 = INDEX
            setPreference 2 0 = INDEX
            setPreference MOST 0 = INDEX
            setPreference 0 1 = 3
            setPreference 1 0 = 2
            list = '10'
            removeCar = 1
            setPreference 1 3 = INDEX
            """);
        sentence("6: a preference from 0 to n - 1", 4, """
            addCar 1 = 0
            setPreference 0 -1 = ARGUMENT
            setPreference 0 LEAST = ARGUMENT
            setPreference 0 4 = ARGUMENT
            setPreference 0 MOST = ARGUMENT
            setPreference 0 3 = 1
            setPreference 0 0 = 3
            list = '0'
            """);
        sentence("6: the last of 9 cars", 8, nine(7) + """
            setPreference 8 0 = 7
            setPreference 9 0 = INDEX
            list = '777777770'
            """);
        removing();
    }

    private static String nine(int preference) {
        return adding(preference, 0, 8);
    }

    private static String adding(int preference, int firstCar, int lastCar) {
        StringBuilder lines = new StringBuilder();
        for (int car = firstCar; car <= lastCar; car++) {
            lines.append("addCar ").append(preference).append(" = ").append(car).append('\n');
        }
        return lines.toString();
    }

    private static void removing() {
        sentence("7: no cars", 2, """
            removeCar = STATE
            addCar 1 = 0
            removeCar = 0
            cars = 0
            removeCar = STATE
            """);
        sentence("7: the last of 9 cars", 2, nine(1) + """
            setPreference 8 0 = 1
            removeCar = 8
            list = '11111111'
            """);
        sentence("8: of no cars, of 9 cars", 2, """
            clearCars = 0
            undo = 0
            """ + nine(0) + """
            clearCars = 9
            cars = 0
            clearCars = 0
            """);
        sentence("10: a car of the list", 3, """
            preference 0 = INDEX
            addCar 2 = 0
            addCar 1 = 1
            preference -1 = INDEX
            preference LEAST = INDEX
            preference 0 = 2
            preference 1 = 1
            preference 2 = INDEX
            preference MOST = INDEX
            removeCar = 1
            preference 1 = INDEX
            """);
        sentence("10: the last of 9 cars", 3, nine(2) + """
            preference 8 = 2
            preference 9 = INDEX
            """);
    }

    /** The description: a space is free as long as fewer cars stand in it than its capacity. */
    private static void spacesAreFree() {
        sentence("a capacity of 0", 3, """
            setCapacity 1 0 = 1
            addCar 1 = 0
            addCar 1 = 1
            places = '2-'
            looked = '22'
            carsIn 1 = 0
            lucky = 0
            """);
        sentence("a capacity of 1", 3, """
            addCar 1 = 0
            addCar 1 = 1
            addCar 1 = 2
            places = '12-'
            """);
        sentence("a capacity of 2", 3, """
            setCapacity 1 2 = 1
            addCar 1 = 0
            addCar 1 = 1
            addCar 1 = 2
            places = '112'
            lucky = 3
            """);
        sentence("a capacity of 3", 3, """
            setCapacity 1 3 = 1
            addCar 1 = 0
            addCar 1 = 1
            addCar 1 = 2
            addCar 1 = 3
            places = '1112'
            carsIn 1 = 7
            carsIn 2 = 8
            """);
        sentence("no capacity at all", 2, """
            setCapacity 0 0 = 1
            setCapacity 1 0 = 1
            addCar 0 = 0
            addCar 1 = 1
            places = '--'
            looked = '21'
            defect = 2
            displacement = 0
            """);
        sentence("more room than cars can fill", 4, """
            setCapacity 0 3 = 1
            setCapacity 1 3 = 1
            setCapacity 2 3 = 1
            setCapacity 3 3 = 1
            """ + nine(0) + """
            places = '000111222'
            setRule 3 8 = 0
            places = '000111222'
            looked = '111222333'
            """);
    }

    /** The description: the sequences of the rules; spaces that do not exist are skipped. */
    private static void sequences() {
        sequence("rule 0 from the last space to n - 1", 0, 0, 4, "'4-'", "'11'");
        sequence("rule 0 from the first space to n - 1", 0, 8, 0, "'01234-'", "'123455'");
        sequence("rule 1, k 0: none below", 1, 0, 2, "'234-'", "'1233'");
        sequence("rule 1, k 1: down to p - 1", 1, 1, 2, "'2134-'", "'12344'");
        sequence("rule 1, k 2: down to space 0", 1, 2, 2, "'21034-'", "'123455'");
        sequence("rule 1, k 3: below space 0", 1, 3, 2, "'21034-'", "'123455'");
        sequence("rule 1, k 8 from the first space", 1, 8, 0, "'01234-'", "'123455'");
        sequence("rule 1, k 4 from the last space", 1, 4, 4, "'43210-'", "'123455'");
        sequence("rule 1, k 3 from the last space", 1, 3, 4, "'4321-'", "'12344'");
        sequence("rule 2, k 0: p alone", 2, 0, 2, "'2-'", "'11'");
        sequence("rule 2, k 1: up to p + 1", 2, 1, 2, "'23-'", "'122'");
        sequence("rule 2, k 2: up to n - 1", 2, 2, 2, "'234-'", "'1233'");
        sequence("rule 2, k 3: above n - 1", 2, 3, 2, "'234-'", "'1233'");
        sequence("rule 2, k 8 from the first space", 2, 8, 0, "'01234-'", "'123455'");
        sequence("rule 2, k 8 from the last space", 2, 8, 4, "'4-'", "'11'");
        sequence("rule 3, k 0: p alone", 3, 0, 2, "'2-'", "'11'");
        sequence("rule 3, k 1: p - 1, then p + 1", 3, 1, 2, "'213-'", "'1233'");
        sequence("rule 3, k 2: to both ends", 3, 2, 2, "'21304-'", "'123455'");
        sequence("rule 3, k 3: beyond both ends", 3, 3, 2, "'21304-'", "'123455'");
        sequence("rule 3, k 2 from the first space", 3, 2, 0, "'012-'", "'1233'");
        sequence("rule 3, k 2 from the last space", 3, 2, 4, "'432-'", "'1233'");
        sequence("rule 3, k 3 beside the first space", 3, 3, 1, "'10234-'", "'123455'");
        sequence("rule 3, k 3 beside the last space", 3, 3, 3, "'32410-'", "'123455'");
        sequence("rule 3, k 8 from the last space", 3, 8, 4, "'43210-'", "'123455'");
        sentence("one space, every rule", 1, """
            addCar 0 = 0
            addCar 0 = 1
            places = '0-'
            setRule 1 8 = 0
            places = '0-'
            setRule 2 8 = 18
            places = '0-'
            setRule 3 8 = 28
            places = '0-'
            looked = '11'
            """);
        sentence("a later car stands below its space, an earlier one above", 5, """
            setRule 1 2 = 0
            addCar 3 = 0
            addCar 3 = 1
            addCar 3 = 2
            addCar 3 = 3
            addCar 3 = 4
            places = '3214-'
            displacement = 4
            lucky = 1
            """);
    }

    /** In 5 spaces, one car more than find a space in the sequence from p. */
    private static void sequence(String title, int rule, int k, int p, String places,
            String looked) {
        StringBuilder script = new StringBuilder("setRule " + rule + " " + k + " = 0\n");
        int cars = places.length() - 2;
        for (int car = 0; car < cars; car++) {
            script.append("addCar ").append(p).append(" = ").append(car).append('\n');
        }
        script.append("places = ").append(places).append('\n');
        script.append("looked = ").append(looked).append('\n');
        script.append("defect = 1\nfirstLeaving = ").append(cars - 1).append('\n');
        script.append("lucky = 1\n");
        sentence(title, 5, script.toString());
    }

    /** Promises 11 to 17. */
    private static void parkingCalls() {
        for (String call : new String[] {"spaceOf", "steps"}) {
            sentence("11, 12: a car of the list", 3, """
                CALL 0 = INDEX
                addCar 0 = 0
                addCar 1 = 1
                CALL -1 = INDEX
                CALL LEAST = INDEX
                CALL 2 = INDEX
                CALL MOST = INDEX
                removeCar = 1
                CALL 1 = INDEX
                """.replace("CALL", call));
        }
        sentence("11: the space, -1 if it leaves; 12: all steps if it leaves", 3, """
            addCar 2 = 0
            addCar 1 = 1
            addCar 1 = 2
            spaceOf 0 = 2
            spaceOf 1 = 1
            spaceOf 2 = -1
            steps 0 = 1
            steps 2 = 2
            """);
        sentence("11, 12: the last of 9 cars", 8, nine(0) + """
            spaceOf 7 = 7
            spaceOf 8 = -1
            spaceOf 9 = INDEX
            steps 7 = 8
            steps 8 = 8
            steps 9 = INDEX
            defect = 1
            firstLeaving = 8
            lucky = 1
            displacement = 28
            setCapacity 0 3 = 1
            spaceOf 8 = 6
            steps 8 = 7
            defect = 0
            firstLeaving = -1
            lucky = 7
            displacement = 21
            """);
        sentence("13: a space from 0 to n - 1; bit i for car i", 3, """
            addCar 0 = 0
            addCar 2 = 1
            addCar 2 = 2
            carsIn -1 = INDEX
            carsIn LEAST = INDEX
            carsIn 0 = 1
            carsIn 1 = 0
            carsIn 2 = 2
            carsIn 3 = INDEX
            carsIn MOST = INDEX
            """);
        sentence("13, 16: bit 8 for the last of 9 cars; 15: the first car", 2, nine(0) + """
            setPreference 8 1 = 0
            setCapacity 1 0 = 1
            setCapacity 0 0 = 1
            defect = 9
            firstLeaving = 0
            lucky = 0
            displacement = 0
            setCapacity 1 3 = 0
            carsIn 1 = 7
            setPreference 0 1 = 0
            lucky = 1
            setRule 2 0 = 0
            carsIn 1 = 257
            lucky = 257
            firstLeaving = 1
            defect = 7
            displacement = 0
            """);
    }

    /** Promises 18, 19, 20: the ranges of their arguments, and no list or all lists counted. */
    private static void countingRanges() {
        sentence("18, 19, 20: cars from 0 to 9", 2, """
            countDefect -1 0 = ARGUMENT
            countDefect LEAST 0 = ARGUMENT
            countDefect 10 0 = ARGUMENT
            countDefect MOST 0 = ARGUMENT
            countDefect 0 0 = 1
            countDefect 9 7 = 511
            countDefect 9 8 = 1
            countLucky -1 0 = ARGUMENT
            countLucky LEAST 0 = ARGUMENT
            countLucky 10 0 = ARGUMENT
            countLucky MOST 0 = ARGUMENT
            countLucky 0 0 = 1
            countLucky 9 0 = 0
            countSum -1 0 = ARGUMENT
            countSum LEAST 0 = ARGUMENT
            countSum 10 0 = ARGUMENT
            countSum MOST 0 = ARGUMENT
            countSum 0 0 = 1
            countSum 9 0 = 0
            """);
        sentence("18: a defect from 0 to 9", 2, """
            countDefect 2 -1 = ARGUMENT
            countDefect 2 LEAST = ARGUMENT
            countDefect 2 10 = ARGUMENT
            countDefect 2 MOST = ARGUMENT
            countDefect 2 0 = 3
            countDefect 2 1 = 1
            countDefect 2 2 = 0
            countDefect 2 9 = 0
            countDefect 0 1 = 0
            countDefect 0 9 = 0
            setCapacity 0 0 = 1
            setCapacity 1 0 = 1
            countDefect 9 9 = 512
            countDefect 9 8 = 0
            countDefect 1 0 = 0
            countDefect 0 0 = 1
            """);
        sentence("19: lucky cars from 0 to 9", 3, """
            countLucky 3 -1 = ARGUMENT
            countLucky 3 LEAST = ARGUMENT
            countLucky 3 10 = ARGUMENT
            countLucky 3 MOST = ARGUMENT
            countLucky 3 0 = 0
            countLucky 3 1 = 2
            countLucky 3 3 = 6
            countLucky 3 4 = 0
            countLucky 3 9 = 0
            countLucky 0 1 = 0
            setCapacity 0 3 = 1
            setCapacity 1 3 = 1
            setCapacity 2 3 = 1
            setRule 2 0 = 0
            countLucky 9 9 = 1680
            countLucky 9 8 = 0
            """);
        sentence("20: a sum from 0 to 63", 8, """
            countSum 5 -1 = ARGUMENT
            countSum 5 LEAST = ARGUMENT
            countSum 5 64 = ARGUMENT
            countSum 5 MOST = ARGUMENT
            countSum 5 0 = 1
            countSum 5 63 = 0
            countSum 1 7 = 1
            countSum 1 8 = 0
            countSum 0 0 = 1
            countSum 0 63 = 0
            setRule 1 8 = 0
            countSum 5 35 = 1
            countSum 5 36 = 0
            """);
        sentence("20: the greatest sums of 9 cars", 3, """
            setCapacity 0 3 = 1
            setCapacity 1 3 = 1
            setCapacity 2 3 = 1
            countSum 9 0 = 1
            countSum 9 9 = 1680
            countSum 9 10 = 0
            setRule 3 8 = 0
            countSum 9 18 = 1
            countSum 9 19 = 0
            """);
    }

    /** Promises 18 to 22 where cars leave: lists that do not park are counted by defect alone. */
    private static void countingWhereCarsLeave() {
        for (String rule : new String[] {"2 0", "3 0"}) {
            sentence("18 to 22: each car parks where it wants or leaves", 2, """
                setRule RULE = 0
                countDefect 2 0 = 2
                countDefect 2 1 = 2
                countDefect 2 2 = 0
                countLucky 2 0 = 0
                countLucky 2 1 = 0
                countLucky 2 2 = 2
                countSum 2 0 = 0
                countSum 2 1 = 2
                countSum 2 2 = 0
                countDefect 3 0 = 0
                countDefect 3 1 = 6
                countDefect 3 2 = 2
                setRank 2 2 = STATE
                setRank 2 1 = 1
                list = '10'
                rank = 1
                setRank 2 0 = 1
                list = '01'
                rank = 0
                setPreference 0 1 = 0
                rank = 2
                """.replace("RULE", rule));
        }
        sentence("18 to 22: no car parks below its space", 2, """
            setCapacity 1 0 = 1
            countDefect 1 0 = 1
            countDefect 1 1 = 1
            countLucky 1 0 = 0
            countLucky 1 1 = 1
            countSum 1 1 = 0
            setRank 1 1 = STATE
            setRank 1 0 = 0
            setRule 1 1 = 0
            countDefect 1 0 = 2
            countLucky 1 0 = 1
            countSum 1 1 = 1
            setRank 1 1 = 1
            list = '1'
            """);
    }

    /** The description: counting is possible if n to the power of m is at most 50000. */
    private static void countingIsPossible() {
        int[] most = {9, 9, 9, 7, 6, 6, 5, 5};
        for (int n = 1; n <= 8; n++) {
            int m = most[n - 1];
            StringBuilder script = new StringBuilder(adding(0, 0, m - 1));
            script.append("rank = 0\nsetRank M 0 = STATE_OR_0\n".replace("M", "" + m)
                .replace("STATE_OR_0", m > n ? "STATE" : "0"));
            script.append("countSum M 63 = 0\ncountLucky M 0 = 0\n".replace("M", "" + m));
            if (m < 9) {
                script.append(adding(0, m, m)).append("rank = STATE\n");
            }
            for (int cars = m + 1; cars <= 9; cars++) {
                script.append("""
                    countDefect M 0 = STATE
                    countLucky M 0 = STATE
                    countSum M 0 = STATE
                    setRank M 0 = STATE
                    """.replace("M", "" + cars));
            }
            sentence("counting is possible up to " + m + " cars in " + n + " spaces", n,
                script.toString());
        }
        sentence("46656 lists of 6 cars can be counted", 6, """
            countDefect 6 0 = 16807
            countDefect 6 5 = 1
            setCapacity 0 0 = 1
            countDefect 6 0 = 0
            """);
        sentence("rank() of 9 cars in 8 spaces", 8, nine(7) + """
            rank = STATE
            setRank 5 0 = 0
            rank = 0
            """);
    }

    /** Promises 21, 22. */
    private static void ranks() {
        sentence("21: how many lists come before the list", 3, """
            rank = 0
            addCar 0 = 0
            rank = 0
            addCar 0 = 1
            addCar 0 = 2
            rank = 0
            setPreference 0 2 = 0
            setPreference 1 1 = 0
            rank = 15
            setPreference 2 1 = 0
            rank = 16
            setPreference 1 2 = 1
            setPreference 2 2 = 1
            rank = 16
            """);
        sentence("21: no list of as many cars parks", 2, """
            addCar 1 = 0
            addCar 1 = 1
            addCar 1 = 2
            rank = 0
            """);
        sentence("22: cars from 0 to 9, a rank of 0 or more", 3, """
            addCar 2 = 0
            setRank -1 0 = ARGUMENT
            setRank LEAST 0 = ARGUMENT
            setRank 10 0 = ARGUMENT
            setRank MOST 0 = ARGUMENT
            setRank 3 -1 = ARGUMENT
            setRank 3 LEAST = ARGUMENT
            setRank 3 0 = 0
            list = '000'
            setRank 3 15 = 3
            list = '210'
            setRank 3 16 = STATE
            setRank 3 17 = STATE
            setRank 3 MOST = STATE
            list = '210'
            """);
        sentence("22: lists of no cars, of one, of more than park, of 9", 3, """
            setRank 0 1 = STATE
            setRank 0 MOST = STATE
            setRank 1 3 = STATE
            setRank 1 2 = 2
            list = '2'
            setRank 0 0 = 0
            cars = 0
            setRank 4 0 = STATE
            setRank 9 0 = STATE
            setCapacity 0 3 = 1
            setCapacity 1 3 = 1
            setCapacity 2 3 = 1
            setRule 2 0 = 0
            setRank 9 1680 = STATE
            setRank 9 1679 = 9
            list = '222111000'
            setRank 9 0 = 9
            list = '000111222'
            setCapacity 0 0 = 3
            setRank 7 0 = STATE
            setRank 6 0 = 9
            list = '111222'
            setCapacity 1 0 = 3
            setCapacity 2 0 = 3
            setRank 1 0 = STATE
            setRank 0 0 = 0
            """);
    }

    /** Promises 23, 24, 25. */
    private static void arrangements() {
        sentence("23, 24, 25: of an empty list", 3, """
            arrangements = 1
            parkingArrangements = 1
            nextArrangement = false
            cars = 0
            undo = 0
            """);
        sentence("23, 24, 25: of one car", 3, """
            addCar 2 = 0
            arrangements = 1
            parkingArrangements = 1
            nextArrangement = false
            list = '2'
            setCapacity 2 0 = 1
            parkingArrangements = 0
            """);
        sentence("23, 24, 25: of equal cars", 3, """
            addCar 0 = 0
            addCar 0 = 1
            addCar 0 = 2
            arrangements = 1
            parkingArrangements = 1
            nextArrangement = false
            list = '000'
            addCar 0 = 3
            parkingArrangements = 0
            """);
        sentence("23, 24, 25: of 9 equal cars", 3, nine(1) + """
            arrangements = 1
            parkingArrangements = 0
            nextArrangement = false
            list = '111111111'
            """);
        sentence("25: from the last arrangement to the smallest one", 4, """
            addCar 3 = 0
            addCar 1 = 1
            addCar 2 = 2
            nextArrangement = true
            list = '321'
            nextArrangement = false
            list = '123'
            nextArrangement = true
            list = '132'
            nextArrangement = true
            list = '213'
            """);
        sentence("25: the smallest one that is greater, among equal ones", 4, """
            addCar 1 = 0
            addCar 3 = 1
            addCar 2 = 2
            addCar 1 = 3
            arrangements = 12
            nextArrangement = true
            list = '2113'
            nextArrangement = true
            list = '2131'
            nextArrangement = true
            list = '2311'
            nextArrangement = true
            list = '3112'
            undo = 5
            list = '2311'
            """);
        sentence("25: nine cars, the last arrangement and the one before it", 8, """
            addCar 7 = 0
            addCar 6 = 1
            addCar 5 = 2
            addCar 4 = 3
            addCar 3 = 4
            addCar 2 = 5
            addCar 1 = 6
            addCar 0 = 7
            addCar 0 = 8
            nextArrangement = false
            list = '001234567'
            nextArrangement = true
            list = '001234576'
            undo = 5
            undo = 4
            list = '765432100'
            """);
        sentence("24: the list itself need not park", 4, """
            setRule 1 1 = 0
            addCar 2 = 0
            addCar 3 = 1
            addCar 3 = 2
            defect = 1
            arrangements = 3
            parkingArrangements = 1
            nextArrangement = true
            list = '323'
            defect = 1
            nextArrangement = true
            list = '332'
            defect = 0
            parkingArrangements = 1
            """);
    }

    /** Promises 26, 27. */
    private static void standardLists() {
        sentence("26: n cars, neither less nor more", 3, """
            isStandard = false
            addCar 0 = 0
            addCar 0 = 1
            isStandard = false
            isPrime = false
            addCar 0 = 2
            isStandard = true
            isPrime = true
            addCar 0 = 3
            isStandard = false
            isPrime = false
            """);
        sentence("26: whatever the rule and the capacities", 3, """
            addCar 2 = 0
            addCar 0 = 1
            addCar 1 = 2
            setRule 2 0 = 0
            setCapacity 0 0 = 1
            setCapacity 1 0 = 1
            setCapacity 2 0 = 1
            defect = 3
            isStandard = true
            setPreference 2 2 = 1
            setRule 3 8 = 20
            defect = 3
            setCapacity 2 3 = 0
            defect = 0
            isStandard = false
            area = STATE
            """);
        sentence("27: for each j from 1 to n - 1 more than j cars", 4, """
            addCar 0 = 0
            addCar 0 = 1
            addCar 1 = 2
            addCar 2 = 3
            isPrime = true
            setPreference 3 3 = 2
            isPrime = false
            setPreference 3 2 = 3
            setPreference 2 2 = 1
            isPrime = false
            setPreference 2 1 = 2
            setPreference 1 1 = 0
            isPrime = false
            isStandard = true
            setPreference 0 1 = 0
            isStandard = false
            """);
        sentence("27: one space", 1, """
            isPrime = false
            addCar 0 = 0
            isPrime = true
            addCar 0 = 1
            isPrime = false
            """);
    }

    /** Promises 28, 29, and the description's circle of n + 1 spaces. */
    private static void circle() {
        sentence("28, 29: n cars, neither less nor more", 3, """
            gap = STATE
            shift = STATE
            addCar 2 = 0
            addCar 2 = 1
            gap = STATE
            shift = STATE
            addCar 2 = 2
            gap = 1
            addCar 2 = 3
            gap = STATE
            shift = STATE
            """);
        sentence("a car goes on from space n to space 0", 3, """
            addCar 2 = 0
            addCar 2 = 1
            addCar 2 = 2
            gap = 1
            shift = 1
            list = '000'
            gap = 3
            shift = 3
            list = '000'
            """);
        sentence("the space n takes the last car: the gap is 0", 3, """
            addCar 1 = 0
            addCar 2 = 1
            addCar 2 = 2
            gap = 0
            shift = 0
            list = '011'
            """);
        sentence("the space n takes no car: the gap is n", 3, """
            addCar 2 = 0
            addCar 1 = 1
            addCar 0 = 2
            gap = 3
            shift = 3
            list = '210'
            """);
        sentence("one space and the space 1", 1, """
            gap = STATE
            addCar 0 = 0
            gap = 1
            shift = 1
            list = '0'
            addCar 0 = 1
            shift = STATE
            """);
        sentence("eight cars round the circle of nine", 8, """
            addCar 7 = 0
            addCar 7 = 1
            addCar 7 = 2
            addCar 7 = 3
            addCar 6 = 4
            addCar 5 = 5
            addCar 0 = 6
            gap = STATE
            addCar 1 = 7
            gap = 4
            shift = 4
            list = '22221045'
            isStandard = true
            undo = 5
            addCar 0 = 8
            gap = STATE
            """);
        sentence("each space of the circle for one car, whatever the settings", 3, """
            setRule 2 0 = 0
            setCapacity 1 0 = 1
            setCapacity 2 3 = 1
            addCar 1 = 0
            addCar 2 = 1
            addCar 2 = 2
            gap = 0
            shift = 0
            list = '011'
            """);
    }

    /** Promises 30 to 35. */
    private static void paths() {
        for (String call : new String[] {"label", "areaOf", "word"}) {
            sentence("30, 31, 34: from 0 to n - 1, of a standard list", 3, """
                CALL 0 = STATE
                CALL 3 = INDEX
                addCar 0 = 0
                addCar 0 = 1
                addCar 0 = 2
                CALL -1 = INDEX
                CALL LEAST = INDEX
                CALL 3 = INDEX
                CALL MOST = INDEX
                addCar 0 = 3
                CALL 2 = STATE
                CALL -1 = INDEX
                """.replace("CALL", call));
        }
        sentence("35: from 0 to 3 * n - 1, of a standard list", 3, """
            pathChar 0 = STATE
            pathChar 8 = STATE
            pathChar 9 = INDEX
            addCar 0 = 0
            addCar 1 = 1
            addCar 2 = 2
            pathChar -1 = INDEX
            pathChar LEAST = INDEX
            pathChar 0 = 78
            pathChar 1 = 48
            pathChar 2 = 69
            pathChar 7 = 50
            pathChar 8 = 69
            pathChar 9 = INDEX
            pathChar MOST = INDEX
            setPreference 1 2 = 1
            pathChar 8 = STATE
            pathChar 9 = INDEX
            area = STATE
            inversions = STATE
            """);
        sentence("32, 33: of a list that is not standard", 2, """
            area = STATE
            inversions = STATE
            addCar 0 = 0
            area = STATE
            inversions = STATE
            addCar 0 = 1
            area = 1
            inversions = 0
            addCar 0 = 2
            area = STATE
            inversions = STATE
            """);
        drawn("one space", 1, "'0'", "'N0E'", "'0'", "'0'", "'0'", 0, 0);
        drawn("the greatest area", 4, "'0000'", "'N0N1N2N3EEEE'", "'0123'", "'0123'",
            "'3210'", 6, 0);
        drawn("no area, all pairs inverted", 4, "'0123'", "'N0EN1EN2EN3E'", "'0123'", "'0000'",
            "'3210'", 0, 6);
        drawn("no area, no pair inverted", 4, "'3210'", "'N3EN2EN1EN0E'", "'3210'", "'0000'",
            "'0123'", 0, 0);
        drawn("area(i) = area(j) and label(i) > label(j)", 3, "'101'", "'N1EN0N2EE'",
            "'102'", "'001'", "'201'", 1, 0);
        drawn("area(i) = area(j) + 1 and label(i) > label(j)", 3, "'200'", "'N1N2EEN0E'",
            "'120'", "'010'", "'201'", 1, 1);
        drawn("area(i) = area(j) + 1 and label(i) < label(j)", 3, "'002'", "'N0N1EEN2E'",
            "'012'", "'010'", "'120'", 1, 1);
        drawn("area(i) = area(j) - 1 is none", 3, "'110'", "'N2EN0N1EE'", "'201'", "'001'",
            "'102'", 1, 0);
        drawn("area(i) = area(j) + 2 is none", 4, "'3000'", "'N1N2N3EEEN0E'", "'1230'",
            "'0120'", "'3201'", 3, 1);
        drawn("eight rows in one space", 8, "'00000000'", "'N0N1N2N3N4N5N6N7EEEEEEEE'",
            "'01234567'", "'01234567'", "'76543210'", 28, 0);
    }

    /** A standard list and its path. */
    private static void drawn(String title, int spaces, String list, String path,
            String labels, String areas, String words, int area, int inversions) {
        StringBuilder script = new StringBuilder();
        for (int car = 0; car < spaces; car++) {
            script.append("addCar ").append(list.charAt(car + 1)).append(" = ").append(car);
            script.append('\n');
        }
        String[] calls = {"path", "labels", "areas", "words", "area", "inversions"};
        String[] due = {path, labels, areas, words, "" + area, "" + inversions};
        for (int i = 0; i < calls.length; i++) {
            script.append(calls[i]).append(" = ").append(due[i]).append('\n');
        }
        sentence(title, spaces, script.toString());
    }

    /** Promises 36, 37. */
    private static void typing() {
        sentence("36: a code from 32 to 126", 2, """
            type 31 = ARGUMENT
            type 127 = ARGUMENT
            type 0 = ARGUMENT
            type -1 = ARGUMENT
            type LEAST = ARGUMENT
            type MOST = ARGUMENT
            type 65614 = ARGUMENT
            clearText = 0
            type 32 = 1
            type 126 = 2
            type 31 = ARGUMENT
            clearText = 2
            """);
        sentence("36: at most 40 characters", 2, """
            text 123456789012345678901234567890123456789 = 39
            type 78 = 40
            type 78 = STATE
            type 126 = STATE
            type 127 = ARGUMENT
            readPath = -1
            addCar 0 = 0
            undo = 0
            clearText = 40
            clearText = 0
            type 78 = 1
            """);
        sentence("36: the text stays behind acts and undo", 2, """
            text N0E = 3
            addCar 1 = 0
            clearCars = 1
            undo = 1
            text N1E = 6
            undo = 0
            readPath = 0
            list = '01'
            """);
        sentence("37: an empty and a full text; it is no act", 2, """
            clearText = 0
            undo = STATE
            text NNNNNNNNNNNNNNNNNNNNNNNNNNNNNNNNNNNNNNNN = 40
            clearText = 40
            undo = STATE
            readPath = -1
            text N0EN1E = 6
            readPath = 0
            """);
    }

    /** Promise 38 with texts that are right. */
    private static void reading() {
        sentence("38: one space", 1, """
            text N0E = 3
            readPath = 0
            list = '0'
            clearText = 0
            readPath = -1
            """);
        sentence("38: the greatest area", 8, """
            text N0N1N2N3N4N5N6N7EEEEEEEE = 24
            readPath = 28
            list = '00000000'
            """);
        sentence("38: the least area, labels falling behind steps right", 8, """
            text N7EN6EN5EN4EN3EN2EN1EN0E = 24
            readPath = 0
            list = '76543210'
            """);
        sentence("38: it replaces a longer list, and none", 2, """
            text N0N1EE = 6
            readPath = 1
            list = '00'
            """ + adding(1, 2, 8) + """
            addCar 1 = STATE
            text N1EN0E = 6
            readPath = 0
            list = '10'
            undo = 5
            cars = 9
            clearText = 0
            """);
        sentence("38: with capacities and a rule that stay", 2, """
            setRule 3 1 = 0
            setCapacity 0 0 = 1
            text N0EN1E = 6
            readPath = 0
            places = '1-'
            setRule 0 0 = 31
            setCapacity 0 1 = 0
            """);
    }

    /** Promise 38 with texts that are wrong: the index of the first wrong character. */
    private static void wrongTexts() {
        wrong("an empty text", "", 0);
        wrong("neither N nor E", "A", 0);
        wrong("a small letter", "n0EN1EN2E", 0);
        wrong("a space", "_N0EN1EN2E", 0);
        wrong("a label without a step", "0N0", 0);
        wrong("E before the first N", "EN0", 0);
        wrong("the text ends behind N", "N", 1);
        wrong("the text ends behind the first step", "N0", 2);
        wrong("a label is no digit: the sign before 0", "N/", 1);
        wrong("a label is no digit: the sign behind 9", "N:", 1);
        wrong("a label is no digit: a letter", "NE", 1);
        wrong("a label greater than n - 1", "N3", 1);
        wrong("a label of 9", "N9", 1);
        wrong("a label that was there", "N0EN0E", 4);
        wrong("a label that was the one before", "N0N0", 3);
        wrong("a smaller label behind a step up", "N2N1", 3);
        wrong("a smaller label behind two steps up", "N0N2N1", 5);
        wrong("a second digit", "N00", 2);
        wrong("E when there are as many as steps up", "N0EE", 3);
        wrong("E when there are as many, later", "N0N1EEE", 6);
        wrong("N when there were n", "N0N1N2N", 6);
        wrong("N when there were n, behind E", "N0N1N2EN", 7);
        wrong("one step right too few", "N0N1N2EE", 8);
        wrong("a step up too few", "N0EN1E", 6);
        wrong("one step right too many", "N0N1N2EEEE", 9);
        wrong("a further N", "N0N1N2EEEN", 9);
        wrong("a further digit", "N0N1N2EEE0", 9);
        wrong("a further space", "N0N1N2EEE_", 9);
        wrong("a full text", "N0N1N2EEEN0N1N2EEEN0N1N2EEEN0N1N2EEEN0N1", 9);
        wrong("a full text that is wrong at once", "E".repeat(40), 0);
        sentence("38: greater than the label of the step before, if that was a step up", 3, """
            text N1N2EN0EE = 9
            readPath = 2
            text N1EN0N2EE = 9
            readPath = 1
            text N1EN2N0EE = 9
            readPath = -7
            """);
        sentence("38: a label of n - 1 and of n, in one space and in eight", 1, """
            text N1E = 3
            readPath = -2
            clearText = 3
            text N0EE = 4
            readPath = -4
            """);
        sentence("38: a label of n", 8, """
            text N8 = 2
            readPath = -2
            clearText = 2
            text N7 = 2
            readPath = -3
            """);
        sentence("38: a wrong text is mended by typing on", 2, """
            text N0EN1 = 5
            readPath = -6
            type 69 = 6
            readPath = 0
            list = '01'
            """);
    }

    /** In the text, "_" stands for a space. */
    private static void wrong(String title, String text, int index) {
        String script = """
            addCar 2 = 0
            text TEXT = LENGTH
            readPath = DUE
            readPath = DUE
            list = '2'
            clearText = LENGTH
            undo = 0
            undo = STATE
            """.replace("LENGTH", "" + text.length()).replace("DUE", "" + (-1 - index));
        sentence("38: " + title, 3, text.isEmpty()
            ? script.replace("text TEXT = 0\n", "") : script.replace("TEXT", text));
    }

    /** Promise 39, and the description's history of at most 6 states. */
    private static void history() {
        sentence("39: none, then one, then none", 3, """
            undo = STATE
            addCar 2 = 0
            undo = 0
            cars = 0
            undo = STATE
            """);
        for (int acts = 0; acts <= 14; acts++) {
            StringBuilder script = new StringBuilder();
            for (int act = 0; act < acts; act++) {
                script.append("setRule ").append(act % 3 + 1).append(' ').append(act % 9);
                script.append(" = ").append(ruleBehind(act)).append('\n');
            }
            int kept = Math.min(6, acts);
            for (int left = kept - 1; left >= 0; left--) {
                script.append("undo = ").append(left).append('\n');
            }
            script.append("undo = STATE\n");
            script.append("setRule 0 0 = ").append(ruleBehind(acts - kept)).append('\n');
            script.append("undo = 0\n");
            sentence("39: " + acts + " acts", 2, script.toString());
        }
        sentence("39: cars, capacities, the rule and its number come back", 3, """
            addCar 2 = 0
            setCapacity 2 0 = 1
            setRule 1 2 = 0
            addCar 1 = 1
            setPreference 0 0 = 2
            removeCar = 1
            undo = 5
            list = '01'
            undo = 4
            list = '21'
            undo = 3
            list = '2'
            places = '1'
            undo = 2
            places = '-'
            undo = 1
            places = '2'
            undo = 0
            cars = 0
            undo = STATE
            """);
        sentence("39: acts behind undo", 3, """
            addCar 0 = 0
            addCar 1 = 1
            undo = 1
            addCar 2 = 1
            list = '02'
            undo = 1
            list = '0'
            undo = 0
            undo = STATE
            """);
        actsThatLeaveAll();
        refusedActs();
    }

    private static int ruleBehind(int acts) {
        int last = acts - 1;
        return last < 0 ? 0 : 10 * (last % 3 + 1) + last % 9;
    }

    private static void actsThatLeaveAll() {
        sentence("an act that leaves all as it was is an act", 1, """
            clearCars = 0
            nextArrangement = false
            setRule 0 0 = 0
            setCapacity 0 1 = 1
            setRank 0 0 = 0
            undo = 4
            addCar 0 = 0
            setPreference 0 0 = 0
            undo = 5
            shift = 1
            undo = 5
            text N0E = 3
            readPath = 0
            undo = 5
            undo = 4
            cars = 0
            """);
    }

    private static void refusedActs() {
        sentence("a refused call adds no state", 2, """
            removeCar = STATE
            addCar 2 = ARGUMENT
            setRule 4 0 = ARGUMENT
            setCapacity 2 0 = INDEX
            setCapacity 0 4 = ARGUMENT
            setPreference 0 0 = INDEX
            setRank 0 1 = STATE
            setRank 10 0 = ARGUMENT
            shift = STATE
            readPath = -1
            type 31 = ARGUMENT
            undo = STATE
            addCar 1 = 0
            addCar 1 = 1
            addCar 1 = 2
            setPreference 0 2 = ARGUMENT
            shift = STATE
            setRank 9 0 = STATE
            undo = 2
            undo = 1
            undo = 0
            """);
    }

    /** The description: if several exceptions apply, the one that is listed first is thrown. */
    private static void exceptionsInOrder() {
        sentence("4: no such space before the capacity", 3, """
            setCapacity 3 4 = INDEX
            setCapacity -1 -1 = INDEX
            """);
        sentence("5: the preference before the 9 cars", 3, nine(0) + """
            addCar 3 = ARGUMENT
            addCar -1 = ARGUMENT
            addCar 2 = STATE
            """);
        sentence("6: no such car before the preference", 3, """
            setPreference 0 3 = INDEX
            setPreference -1 -1 = INDEX
            """);
        sentence("18, 19, 20, 22: the range before what can be counted", 8, """
            countDefect 9 10 = ARGUMENT
            countDefect 10 0 = ARGUMENT
            countDefect 9 9 = STATE
            countLucky 9 10 = ARGUMENT
            countLucky 10 0 = ARGUMENT
            countLucky 9 9 = STATE
            countSum 9 64 = ARGUMENT
            countSum 10 0 = ARGUMENT
            countSum 9 63 = STATE
            setRank 9 -1 = ARGUMENT
            setRank 10 0 = ARGUMENT
            setRank 9 MOST = STATE
            """);
        sentence("30, 31, 34, 35: the index before the list", 3, """
            label 3 = INDEX
            label -1 = INDEX
            label 2 = STATE
            areaOf 3 = INDEX
            areaOf -1 = INDEX
            areaOf 2 = STATE
            word 3 = INDEX
            word -1 = INDEX
            word 2 = STATE
            pathChar 9 = INDEX
            pathChar -1 = INDEX
            pathChar 8 = STATE
            """);
        sentence("36: the code before the 40 characters", 3, """
            text 1234567890123456789012345678901234567890 = 40
            type 31 = ARGUMENT
            type 127 = ARGUMENT
            type 32 = STATE
            """);
    }

    /** Promise 40: 31 times itself plus the number wraps around in long arithmetic. */
    private static void fingerprints() {
        fingerprint("one space, no cars: it does not wrap around yet", 1, List.of(), false,
            1, 1, 0, 0, 0, 0, 0);
        fingerprint("8 spaces, no cars", 8, List.of(), true,
            8, 1, 1, 1, 1, 1, 1, 1, 1, 0, 0, 0, 0, 0);
        fingerprint("9 cars, one of them leaves", 8, List.of("setRule 3 8",
            "addCar 7", "addCar 7", "addCar 7", "addCar 7", "addCar 7", "addCar 7", "addCar 7",
            "addCar 7", "addCar 0"), true,
            8, 1, 1, 1, 1, 1, 1, 1, 1, 38, 9, 7, 7, 1, 7, 6, 2, 7, 5, 3, 7, 4, 4, 7, 3, 5,
            7, 2, 6, 7, 1, 7, 7, 0, 8, 0, -1, 8, 1, 1, 28);
        fingerprint("a sum below zero", 1, List.of("setCapacity 0 0", "addCar 0"), false,
            1, 0, 0, 1, 0, -1, 1, 1, 0, 0);
        fingerprint("no car is lucky, all leave", 3, List.of("setCapacity 0 0",
            "setCapacity 1 0", "setCapacity 2 0", "setRule 2 8", "addCar 2", "addCar 0"), true,
            3, 0, 0, 0, 28, 2, 2, -1, 1, 0, -1, 3, 2, 0, 0);
    }

    private static void fingerprint(String title, int spaces, List<String> calls,
            boolean wraps, int... numbers) {
        BigInteger print = BigInteger.valueOf(61);
        for (int number : numbers) {
            print = print.multiply(BigInteger.valueOf(31)).add(BigInteger.valueOf(number));
        }
        check.same("40: " + title + ", wraps around", "" + wraps, "" + (print.bitLength() > 63));
        Scene scene = new Scene(spaces, calls);
        scene.check(check, "40: " + title, "fingerprint", "" + print.longValue());
    }
}
