/** Each promise of the document: ordinary calls, the edges that it names, and wrong arguments. */
public final class PromiseTest {
    private static final String ARGUMENT = "IllegalArgumentException";
    private static final String STATE = "IllegalStateException";
    private static final String INDEX = "IndexOutOfBoundsException";
    private static final int LEAST = Integer.MIN_VALUE;
    private static final int MOST = Integer.MAX_VALUE;

    private static final Check check = new Check("PromiseTest");

    public static void main(String[] args) {
        newObject();
        settings();
        cars();
        changes();
        parkingByTheRules();
        capacitiesAndParking();
        callsAlone();
        firstCarLeaves();
        parkingRefusals();
        counting();
        countingByTheRules();
        countingRefusals();
        ranks();
        ranksBySettings();
        arrangements();
        nextArrangements();
        standardAndPrime();
        circle();
        pathOfAList();
        pathRefusals();
        typing();
        reading();
        wrongTexts();
        undoing();
        historyOfSix();
        everyActIsUndone();
        fingerprints();
        check.end();
    }

    private static ParkingRules with(int spaces, int... preferences) {
        ParkingRules x = new ParkingRules(spaces);
        for (int preference : preferences) {
            x.addCar(preference);
        }
        return x;
    }

    private static String list(ParkingRules x) {
        StringBuilder list = new StringBuilder();
        for (int car = 0; car < x.cars(); car++) {
            list.append(x.preference(car));
        }
        return list.toString();
    }

    private static String places(ParkingRules x) {
        StringBuilder places = new StringBuilder();
        for (int car = 0; car < x.cars(); car++) {
            places.append(x.spaceOf(car) < 0 ? "-" : "" + x.spaceOf(car));
        }
        return places.toString();
    }

    private static String steps(ParkingRules x) {
        StringBuilder steps = new StringBuilder();
        for (int car = 0; car < x.cars(); car++) {
            steps.append(x.steps(car));
        }
        return steps.toString();
    }

    private static String path(ParkingRules x) {
        StringBuilder path = new StringBuilder();
        for (int k = 0; k < 3 * x.spaces(); k++) {
            path.append((char) x.pathChar(k));
        }
        return path.toString();
    }

    private static int read(ParkingRules x, String text) {
        for (char c : text.toCharArray()) {
            x.type(c);
        }
        return x.readPath();
    }

    /** Promises 1, 2. */
    private static void newObject() {
        int[][] asked = {{LEAST, 1}, {-1, 1}, {0, 1}, {1, 1}, {2, 2}, {8, 8}, {9, 8}, {MOST, 8}};
        for (int[] pair : asked) {
            ParkingRules x = new ParkingRules(pair[0]);
            check.answers("spaces() of " + pair[0], pair[1], x::spaces);
            check.answers("cars() of a new object", 0, x::cars);
            check.refuses("undo() of a new object", STATE, x, x::undo);
            check.answers("clearText() of a new object", 0, x::clearText);
            check.answers("last capacity", 1, () -> x.setCapacity(pair[1] - 1, 2));
            check.answers("rule of a new object", 0, () -> x.setRule(0, 0));
        }
    }

    /** Promises 3, 4. */
    private static void settings() {
        ParkingRules x = new ParkingRules(5);
        check.answers("setRule(3, 8)", 0, () -> x.setRule(3, 8));
        check.answers("setRule(1, 0)", 38, () -> x.setRule(1, 0));
        check.answers("setRule(0, 7)", 10, () -> x.setRule(0, 7));
        check.answers("setRule(0, 0)", 7, () -> x.setRule(0, 0));
        int[][] wrong = {{-1, 0}, {4, 0}, {0, -1}, {0, 9}, {LEAST, 0}, {0, MOST}};
        for (int[] pair : wrong) {
            check.refuses("setRule(" + pair[0] + ", " + pair[1] + ")", ARGUMENT, x,
                () -> x.setRule(pair[0], pair[1]));
        }
        check.answers("setCapacity(4, 3)", 1, () -> x.setCapacity(4, 3));
        check.answers("setCapacity(4, 0)", 3, () -> x.setCapacity(4, 0));
        check.answers("setCapacity(4, 1)", 0, () -> x.setCapacity(4, 1));
        check.answers("setCapacity(0, 2)", 1, () -> x.setCapacity(0, 2));
        check.refuses("setCapacity(5, 1)", INDEX, x, () -> x.setCapacity(5, 1));
        check.refuses("setCapacity(-1, 1)", INDEX, x, () -> x.setCapacity(-1, 1));
        check.refuses("setCapacity(5, 4)", INDEX, x, () -> x.setCapacity(5, 4));
        check.refuses("setCapacity(0, 4)", ARGUMENT, x, () -> x.setCapacity(0, 4));
        check.refuses("setCapacity(0, -1)", ARGUMENT, x, () -> x.setCapacity(0, -1));
        check.answers("setCapacity(0, 1) after refusals", 2, () -> x.setCapacity(0, 1));
    }

    /** Promises 5, 9, 10. */
    private static void cars() {
        ParkingRules x = new ParkingRules(3);
        for (int car = 0; car < 9; car++) {
            int number = car;
            check.answers("cars()", number, x::cars);
            check.answers("addCar", number, () -> x.addCar(number % 3));
        }
        check.answers("cars()", 9, x::cars);
        check.same("the list", "012012012", list(x));
        check.refuses("a tenth addCar", STATE, x, () -> x.addCar(0));
        check.refuses("a tenth addCar(3)", ARGUMENT, x, () -> x.addCar(3));
        ParkingRules y = with(3, 2, 0);
        check.refuses("addCar(3)", ARGUMENT, y, () -> y.addCar(3));
        check.refuses("addCar(-1)", ARGUMENT, y, () -> y.addCar(-1));
        check.answers("preference(0)", 2, () -> y.preference(0));
        check.answers("preference(1)", 0, () -> y.preference(1));
        check.refuses("preference(2)", INDEX, y, () -> y.preference(2));
        check.refuses("preference(-1)", INDEX, y, () -> y.preference(-1));
    }

    /** Promises 6, 7, 8. */
    private static void changes() {
        ParkingRules x = with(4, 3, 1);
        check.answers("setPreference(0, 2)", 3, () -> x.setPreference(0, 2));
        check.answers("setPreference(1, 0)", 1, () -> x.setPreference(1, 0));
        check.same("the list", "20", list(x));
        check.refuses("setPreference(2, 0)", INDEX, x, () -> x.setPreference(2, 0));
        check.refuses("setPreference(-1, 9)", INDEX, x, () -> x.setPreference(-1, 9));
        check.refuses("setPreference(0, 4)", ARGUMENT, x, () -> x.setPreference(0, 4));
        check.refuses("setPreference(0, -1)", ARGUMENT, x, () -> x.setPreference(0, -1));
        check.answers("removeCar()", 1, x::removeCar);
        check.same("the list", "2", list(x));
        check.answers("removeCar()", 0, x::removeCar);
        check.refuses("removeCar() of none", STATE, x, x::removeCar);
        check.answers("clearCars() of none", 0, x::clearCars);
        x.addCar(3);
        x.addCar(3);
        check.answers("clearCars()", 2, x::clearCars);
        check.answers("cars()", 0, x::cars);
    }

    /** Promises 11 to 17 with the four rules. */
    private static void parkingByTheRules() {
        parking(0, 8, "333", "34-", "122");
        parking(1, 0, "333", "34-", "122");
        parking(1, 1, "3333", "324-", "1233");
        parking(1, 2, "11111", "10234", "12345");
        parking(1, 8, "44444", "43210", "12345");
        parking(2, 0, "3313", "3-1-", "1111");
        parking(2, 1, "22233", "23-4-", "12222");
        parking(2, 8, "2222", "234-", "1233");
        parking(3, 0, "3312", "3-12", "1111");
        parking(3, 1, "2222", "213-", "1233");
        parking(3, 2, "222222", "21304-", "123455");
        parking(3, 2, "000044", "012-43", "123312");
        parking(3, 8, "000000", "01234-", "123455");
        ParkingRules x = with(5, 2, 2, 2, 0, 4, 4);
        check.answers("lucky()", 1 | 8, x::lucky);
        check.answers("defect()", 2, x::defect);
        check.answers("firstLeaving()", 4, x::firstLeaving);
        check.answers("displacement()", 3, x::displacement);
        check.answers("carsIn(0)", 8, () -> x.carsIn(0));
        check.answers("carsIn(1)", 0, () -> x.carsIn(1));
        check.answers("carsIn(4)", 4, () -> x.carsIn(4));
        x.setRule(1, 3);
        check.same("places by rule 1", "21034-", places(x));
        check.answers("displacement() by rule 1", 6, x::displacement);
        check.answers("lucky() by rule 1", 1 | 16, x::lucky);
        check.answers("firstLeaving() by rule 1", 5, x::firstLeaving);
    }

    private static void parking(int rule, int k, String list, String places, String steps) {
        ParkingRules x = new ParkingRules(5);
        x.setRule(rule, k);
        for (char digit : list.toCharArray()) {
            x.addCar(digit - '0');
        }
        String what = list + " by rule " + rule + " with " + k;
        check.same("places of " + what, places, places(x));
        check.same("steps of " + what, steps, steps(x));
        int leaving = places.length() - places.replace("-", "").length();
        check.answers("defect() of " + what, leaving, x::defect);
        check.answers("firstLeaving() of " + what, places.indexOf('-'), x::firstLeaving);
    }

    private static void capacitiesAndParking() {
        ParkingRules x = with(3, 1, 1, 1, 1, 1, 0);
        x.setCapacity(1, 3);
        x.setCapacity(2, 0);
        check.same("places", "111--0", places(x));
        check.same("steps", "111221", steps(x));
        check.answers("carsIn(1)", 7, () -> x.carsIn(1));
        check.answers("carsIn(2)", 0, () -> x.carsIn(2));
        check.answers("lucky()", 7 | 32, x::lucky);
        x.setCapacity(2, 2);
        check.same("places", "111220", places(x));
        check.answers("carsIn(2)", 8 | 16, () -> x.carsIn(2));
        check.answers("displacement()", 2, x::displacement);
        check.answers("firstLeaving()", -1, x::firstLeaving);
        check.answers("defect()", 0, x::defect);
        ParkingRules full = with(8, 7, 7, 7, 7, 7, 7, 7, 7, 7);
        full.setRule(1, 8);
        check.same("places of nine", "76543210-", places(full));
        check.same("steps of nine", "123456788", steps(full));
        check.answers("lucky() of nine", 1, full::lucky);
        check.answers("displacement() of nine", 28, full::displacement);
        check.answers("firstLeaving() of nine", 8, full::firstLeaving);
    }

    /** Each call parks the cars itself: on an object of its own, as the first one asked. */
    private static void callsAlone() {
        check.answers("spaceOf(2) alone", 2, () -> with(3, 1, 0, 0, 0).spaceOf(2));
        check.answers("steps(2) alone", 3, () -> with(3, 1, 0, 0, 0).steps(2));
        check.answers("carsIn(2) alone", 4, () -> with(3, 1, 0, 0, 0).carsIn(2));
        check.answers("defect() alone", 1, () -> with(3, 1, 0, 0, 0).defect());
        check.answers("firstLeaving() alone", 3, () -> with(3, 1, 0, 0, 0).firstLeaving());
        check.answers("lucky() alone", 3, () -> with(3, 1, 0, 0, 0).lucky());
        check.answers("displacement() alone", 2, () -> with(3, 1, 0, 0, 0).displacement());
        check.answers("rank() alone", 2, () -> with(2, 1, 0).rank());
        check.answers("area() alone", 1, () -> with(2, 0, 0).area());
        check.answers("inversions() alone", 1, () -> with(2, 0, 1).inversions());
        check.answers("word(0) alone", 1, () -> with(2, 0, 0).word(0));
        check.answers("label(1) alone", 1, () -> with(2, 0, 0).label(1));
        check.answers("areaOf(1) alone", 1, () -> with(2, 0, 0).areaOf(1));
        check.answers("pathChar(3) alone", '1', () -> with(2, 0, 0).pathChar(3));
        check.answers("fingerprint() alone", print(1, 1, 0, 1, 0, 0, 1, 0, 1, 0),
            () -> with(1, 0).fingerprint());
    }

    private static void firstCarLeaves() {
        ParkingRules x = with(3, 1, 0);
        x.setRule(2, 0);
        x.setCapacity(1, 0);
        check.answers("firstLeaving()", 0, x::firstLeaving);
        check.answers("defect()", 1, x::defect);
        check.answers("lucky()", 2, x::lucky);
        x.setRule(0, 0);
        check.answers("displacement()", 1, x::displacement);
    }

    private static void parkingRefusals() {
        ParkingRules x = with(3, 1, 2);
        for (int car : new int[] {-1, 2, LEAST, MOST}) {
            check.refuses("spaceOf(" + car + ")", INDEX, x, () -> x.spaceOf(car));
            check.refuses("steps(" + car + ")", INDEX, x, () -> x.steps(car));
        }
        for (int space : new int[] {-1, 3, LEAST, MOST}) {
            check.refuses("carsIn(" + space + ")", INDEX, x, () -> x.carsIn(space));
        }
        ParkingRules none = new ParkingRules(3);
        check.answers("defect() of none", 0, none::defect);
        check.answers("firstLeaving() of none", -1, none::firstLeaving);
        check.answers("lucky() of none", 0, none::lucky);
        check.answers("displacement() of none", 0, none::displacement);
        check.answers("carsIn(2) of none", 0, () -> none.carsIn(2));
        check.refuses("spaceOf(0) of none", INDEX, none, () -> none.spaceOf(0));
    }

    /** Promises 18, 19, 20 by rule 0, where the numbers are known. */
    private static void counting() {
        long[] standard = {1, 3, 16, 125, 1296, 16807};
        for (int n = 1; n <= 6; n++) {
            ParkingRules x = new ParkingRules(n);
            int m = n;
            check.answers("countDefect(n, 0)", standard[n - 1], () -> x.countDefect(m, 0));
            check.answers("countLucky(n, n)", factorial(n), () -> x.countLucky(m, m));
            check.answers("countLucky(n, 1)", factorial(n - 1), () -> x.countLucky(m, 1));
            check.answers("countLucky(n, 0)", 0, () -> x.countLucky(m, 0));
            check.answers("countSum(n, most)", factorial(n),
                () -> x.countSum(m, m * (m - 1) / 2));
            check.answers("countSum(n, 0)", 1, () -> x.countSum(m, 0));
            check.answers("countSum(n, 63)", 0, () -> x.countSum(m, 63));
            check.answers("countDefect(0, 0)", 1, () -> x.countDefect(0, 0));
            check.answers("countDefect(0, 1)", 0, () -> x.countDefect(0, 1));
            check.answers("countLucky(0, 0)", 1, () -> x.countLucky(0, 0));
            check.answers("countSum(0, 0)", 1, () -> x.countSum(0, 0));
        }
        ParkingRules three = new ParkingRules(3);
        long[] byDefect = {16, 10, 1, 0};
        long[] byLucky = {0, 2, 8, 6};
        long[] bySum = {1, 3, 6, 6, 0};
        numbers("countDefect(3, ", byDefect, d -> three.countDefect(3, d));
        numbers("countLucky(3, ", byLucky, l -> three.countLucky(3, l));
        numbers("countSum(3, ", bySum, s -> three.countSum(3, s));
        check.answers("countDefect(9, 6) of 3 spaces", 19683 - over(three, 7), () ->
            three.countDefect(9, 6));
        check.answers("countDefect(9, 5)", 0, () -> three.countDefect(9, 5));
    }

    private static long over(ParkingRules x, int from) {
        long sum = 0;
        for (int defect = from; defect <= 9; defect++) {
            sum += x.countDefect(9, defect);
        }
        return sum;
    }

    private interface Count {
        int of(int number);
    }

    private static void numbers(String call, long[] due, Count count) {
        for (int i = 0; i < due.length; i++) {
            int number = i;
            check.answers(call + number + ")", due[number], () -> count.of(number));
        }
    }

    private static long factorial(int n) {
        return n <= 1 ? 1 : n * factorial(n - 1);
    }

    /** Counting goes by the rule and the capacities that are set, and changes nothing. */
    private static void countingByTheRules() {
        ParkingRules x = with(2, 1, 1, 0);
        x.setRule(1, 1);
        numbers("rule 1: countDefect(2, ", new long[] {4, 0}, d -> x.countDefect(2, d));
        x.setRule(2, 0);
        numbers("rule 2: countDefect(2, ", new long[] {2, 2}, d -> x.countDefect(2, d));
        numbers("rule 2: countLucky(2, ", new long[] {0, 0, 2}, l -> x.countLucky(2, l));
        numbers("rule 2: countSum(2, ", new long[] {0, 2, 0}, s -> x.countSum(2, s));
        x.setRule(3, 1);
        numbers("rule 3: countDefect(2, ", new long[] {4, 0}, d -> x.countDefect(2, d));
        numbers("rule 3: countLucky(2, ", new long[] {0, 2, 2}, l -> x.countLucky(2, l));
        numbers("rule 3: countSum(2, ", new long[] {1, 2, 1}, s -> x.countSum(2, s));
        x.setRule(3, 0);
        numbers("rule 3, 0: countDefect(2, ", new long[] {2, 2}, d -> x.countDefect(2, d));
        numbers("rule 3, 0: countLucky(2, ", new long[] {0, 0, 2}, l -> x.countLucky(2, l));
        x.setRule(0, 0);
        x.setCapacity(0, 0);
        numbers("no space 0: countDefect(1, ", new long[] {2, 0}, d -> x.countDefect(1, d));
        numbers("no space 0: countDefect(2, ", new long[] {0, 4}, d -> x.countDefect(2, d));
        numbers("no space 0: countLucky(1, ", new long[] {1, 1}, l -> x.countLucky(1, l));
        x.setCapacity(1, 3);
        numbers("two in 1: countDefect(3, ", new long[] {8, 0}, d -> x.countDefect(3, d));
        numbers("two in 1: countLucky(3, ", new long[] {1, 3, 3, 1}, l -> x.countLucky(3, l));
        check.same("the list after counting", "110", list(x));
    }

    private static void countingRefusals() {
        for (int number : new int[] {-1, 10, LEAST, MOST}) {
            ParkingRules x = with(8, 1);
            check.refuses("countDefect", ARGUMENT, x, () -> x.countDefect(number, 0));
            check.refuses("countDefect", ARGUMENT, x, () -> x.countDefect(1, number));
            check.refuses("countDefect", ARGUMENT, x, () -> x.countDefect(9, number));
            check.refuses("countLucky", ARGUMENT, x, () -> x.countLucky(number, 0));
            check.refuses("countLucky", ARGUMENT, x, () -> x.countLucky(1, number));
            check.refuses("countSum", ARGUMENT, x, () -> x.countSum(number, 0));
        }
        ParkingRules eight = new ParkingRules(8);
        check.refuses("countSum(1, -1)", ARGUMENT, eight, () -> eight.countSum(1, -1));
        check.refuses("countSum(9, 64)", ARGUMENT, eight, () -> eight.countSum(9, 64));
        check.answers("countSum(1, 63)", 0, () -> eight.countSum(1, 63));
        check.answers("countDefect(5, 9)", 0, () -> eight.countDefect(5, 9));
        int[] most = {9, 9, 9, 7, 6, 6, 5, 5};
        for (int n = 1; n <= 8; n++) {
            ParkingRules x = new ParkingRules(n);
            int m = most[n - 1];
            long lists = 0;
            for (int defect = 0; defect <= 9; defect++) {
                lists += x.countDefect(m, defect);
            }
            check.same("lists of " + m, "" + (long) Math.pow(n, m), "" + lists);
            if (m < 9) {
                check.refuses("countDefect", STATE, x, () -> x.countDefect(m + 1, 0));
                check.refuses("countLucky", STATE, x, () -> x.countLucky(m + 1, 0));
                check.refuses("countSum", STATE, x, () -> x.countSum(9, 0));
                check.refuses("setRank", STATE, x, () -> x.setRank(m + 1, 0));
            }
        }
    }

    /** Promises 21, 22: the ranks go through the parking lists in their order. */
    private static void ranks() {
        String[] parking = {"000", "001", "002", "010", "011", "012", "020", "021", "100", "101",
            "102", "110", "120", "200", "201", "210"};
        ParkingRules x = new ParkingRules(3);
        for (int rank = 0; rank < parking.length; rank++) {
            int wanted = rank;
            int sum = 0;
            for (char digit : parking[rank].toCharArray()) {
                sum += digit - '0';
            }
            check.answers("setRank(3, " + rank + ")", sum, () -> x.setRank(3, wanted));
            check.same("the list of rank " + rank, parking[rank], list(x));
            check.answers("rank()", wanted, x::rank);
        }
        check.refuses("setRank(3, 16)", STATE, x, () -> x.setRank(3, 16));
        check.refuses("setRank(3, most)", STATE, x, () -> x.setRank(3, MOST));
        check.refuses("setRank(3, -1)", ARGUMENT, x, () -> x.setRank(3, -1));
        check.refuses("setRank(3, least)", ARGUMENT, x, () -> x.setRank(3, LEAST));
        check.refuses("setRank(10, 0)", ARGUMENT, x, () -> x.setRank(10, 0));
        check.refuses("setRank(-1, 0)", ARGUMENT, x, () -> x.setRank(-1, 0));
        check.refuses("setRank(4, 0)", STATE, x, () -> x.setRank(4, 0));
        check.refuses("setRank(0, 1)", STATE, x, () -> x.setRank(0, 1));
        check.answers("rank() of 022", 8, () -> with(3, 0, 2, 2).rank());
        check.answers("rank() of 111", 12, () -> with(3, 1, 1, 1).rank());
        check.answers("rank() of 222", 16, () -> with(3, 2, 2, 2).rank());
        check.answers("rank() of none", 0, () -> new ParkingRules(3).rank());
        check.answers("rank() of 4 cars", 0, () -> with(3, 2, 2, 2, 2).rank());
        ParkingRules long8 = with(8, 0, 0, 0, 0, 0, 7);
        check.refuses("rank() of 6 in 8", STATE, long8, long8::rank);
        check.answers("setRank(0, 0)", 0, () -> x.setRank(0, 0));
        check.answers("cars() then", 0, x::cars);
    }

    private static void ranksBySettings() {
        ParkingRules x = with(3, 2, 2);
        check.answers("rank() of 22", 8, x::rank);
        x.setRule(2, 0);
        check.answers("rank() of 22 by rule 2", 6, x::rank);
        check.answers("setRank(2, 5) by rule 2", 3, () -> x.setRank(2, 5));
        check.same("its list", "21", list(x));
        x.setCapacity(2, 2);
        check.answers("setRank(2, 6), two in space 2", 4, () -> x.setRank(2, 6));
        check.same("its list", "22", list(x));
        x.setCapacity(0, 0);
        x.setCapacity(1, 0);
        check.answers("setRank(1, 0), space 2 alone", 2, () -> x.setRank(1, 0));
        x.setCapacity(2, 0);
        check.refuses("setRank(1, 0) without room", STATE, x, () -> x.setRank(1, 0));
        check.answers("setRank(0, 0) without room", 0, () -> x.setRank(0, 0));
    }

    /** Promises 23, 24. */
    private static void arrangements() {
        check.answers("arrangements()", 1, () -> new ParkingRules(5).arrangements());
        check.answers("arrangements()", 1, () -> with(5, 4, 4, 4).arrangements());
        check.answers("arrangements()", 3, () -> with(5, 4, 0, 4).arrangements());
        check.answers("arrangements()", 30, () -> with(3, 0, 1, 2, 0, 1).arrangements());
        check.answers("arrangements()", 40320,
            () -> with(8, 0, 1, 2, 3, 4, 5, 6, 7).arrangements());
        check.answers("arrangements()", 181440,
            () -> with(8, 0, 1, 2, 3, 4, 5, 6, 7, 7).arrangements());
        check.answers("arrangements()", 1680,
            () -> with(3, 0, 0, 0, 1, 1, 1, 2, 2, 2).arrangements());
        ParkingRules none = new ParkingRules(5);
        check.answers("parkingArrangements() of none", 1, none::parkingArrangements);
        check.answers("parkingArrangements() of 011", 3,
            () -> with(3, 1, 0, 1).parkingArrangements());
        check.answers("parkingArrangements() of 111", 0,
            () -> with(3, 1, 1, 1).parkingArrangements());
        ParkingRules x = with(3, 2, 2, 1);
        check.answers("parkingArrangements() by rule 0", 0, x::parkingArrangements);
        x.setRule(1, 1);
        check.answers("parkingArrangements() by rule 1", 1, x::parkingArrangements);
        x.setRule(3, 2);
        check.answers("parkingArrangements() by rule 3", 3, x::parkingArrangements);
        check.same("the list after counting", "221", list(x));
        ParkingRules wide = with(8, 0, 1, 2, 3, 4, 5, 6, 7, 7);
        check.answers("parkingArrangements() of nine", 0, wide::parkingArrangements);
        wide.setCapacity(7, 2);
        check.answers("parkingArrangements() of nine", 181440, wide::parkingArrangements);
    }

    /** Promise 25. */
    private static void nextArrangements() {
        ParkingRules x = with(4, 0, 2, 2, 3);
        String[] rest = {"0232", "0322", "2023", "2032", "2203", "2230", "2302", "2320", "3022",
            "3202", "3220"};
        for (String next : rest) {
            check.is("nextArrangement()", true, x::nextArrangement);
            check.same("the next arrangement", next, list(x));
        }
        check.is("nextArrangement() of the last", false, x::nextArrangement);
        check.same("the first arrangement", "0223", list(x));
        ParkingRules nine = with(8, 0, 1, 7, 6, 5, 4, 3, 3, 2);
        check.is("nextArrangement() of nine", true, nine::nextArrangement);
        check.same("nine", "021334567", list(nine));
        ParkingRules nineLast = with(8, 7, 6, 5, 4, 3, 2, 1, 0, 0);
        check.is("nextArrangement() of the last nine", false, nineLast::nextArrangement);
        check.same("the first nine", "001234567", list(nineLast));
        ParkingRules removed = with(4, 2, 1, 3);
        removed.removeCar();
        check.is("nextArrangement() without a removed car", false, removed::nextArrangement);
        check.same("then", "12", list(removed));
        ParkingRules none = new ParkingRules(4);
        check.is("nextArrangement() of none", false, none::nextArrangement);
        check.answers("undo() of it", 0, none::undo);
        ParkingRules equal = with(4, 2, 2, 2);
        check.is("nextArrangement() of equals", false, equal::nextArrangement);
        check.same("equals", "222", list(equal));
        check.answers("undo() of it", 3, equal::undo);
        ParkingRules one = with(4, 3);
        check.is("nextArrangement() of one", false, one::nextArrangement);
        ParkingRules two = with(4, 3, 1);
        check.is("nextArrangement() of 31", false, two::nextArrangement);
        check.same("then", "13", list(two));
        check.is("nextArrangement() of 13", true, two::nextArrangement);
        check.same("then", "31", list(two));
    }

    /** Promises 26, 27. */
    private static void standardAndPrime() {
        standard(true, true, with(1, 0));
        standard(false, false, new ParkingRules(1));
        standard(false, false, with(1, 0, 0));
        standard(true, true, with(3, 0, 1, 0));
        standard(true, false, with(3, 0, 1, 1));
        standard(true, false, with(3, 2, 0, 0));
        standard(true, false, with(3, 2, 1, 0));
        standard(false, false, with(3, 2, 2, 0));
        standard(false, false, with(3, 1, 1, 1));
        standard(false, false, with(3, 0, 0));
        standard(false, false, with(3, 0, 0, 0, 0));
        standard(true, true, with(8, 6, 5, 4, 3, 2, 1, 0, 0));
        ParkingRules x = with(3, 0, 0, 1);
        x.setRule(2, 0);
        x.setCapacity(0, 0);
        standard(true, true, x);
        ParkingRules y = with(3, 2, 2, 2);
        y.setRule(1, 8);
        y.setCapacity(2, 3);
        check.answers("defect() of it", 0, y::defect);
        standard(false, false, y);
    }

    private static void standard(boolean standard, boolean prime, ParkingRules x) {
        check.is("isStandard() of " + list(x), standard, x::isStandard);
        check.is("isPrime() of " + list(x), prime, x::isPrime);
    }

    /** Promises 28, 29. */
    private static void circle() {
        shifted(3, "000", 3, "000");
        shifted(3, "222", 1, "000");
        shifted(3, "111", 0, "000");
        shifted(3, "212", 0, "101");
        shifted(5, "44242", 1, "22020");
        shifted(1, "0", 1, "0");
        shifted(8, "77777777", 6, "00000000");
        ParkingRules x = with(3, 2, 2);
        check.refuses("gap() of 2 cars", STATE, x, x::gap);
        check.refuses("shift() of 2 cars", STATE, x, x::shift);
        ParkingRules y = with(3, 2, 2, 2, 2);
        check.refuses("gap() of 4 cars", STATE, y, y::gap);
        check.refuses("shift() of 4 cars", STATE, y, y::shift);
        ParkingRules z = with(3, 2, 2, 2);
        z.setCapacity(0, 0);
        z.setRule(2, 0);
        check.answers("gap() whatever the settings", 1, z::gap);
        check.answers("shift() whatever the settings", 1, z::shift);
        check.answers("undo() of shift()", 5, z::undo);
        check.same("the list then", "222", list(z));
    }

    private static void shifted(int n, String list, int gap, String due) {
        ParkingRules x = new ParkingRules(n);
        for (char digit : list.toCharArray()) {
            x.addCar(digit - '0');
        }
        check.answers("gap() of " + list, gap, x::gap);
        check.answers("shift() of " + list, gap, x::shift);
        check.same("shifted " + list, due, list(x));
        check.is("shifted it is standard", true, x::isStandard);
        check.answers("gap() of a standard list", n, x::gap);
    }

    /** Promises 30 to 35. */
    private static void pathOfAList() {
        drawn(with(1, 0), "N0E", "0", "0", "0", 0);
        drawn(with(3, 2, 1, 0), "N2EN1EN0E", "210", "000", "012", 0);
        drawn(with(3, 0, 1, 2), "N0EN1EN2E", "012", "000", "210", 3);
        drawn(with(3, 0, 0, 0), "N0N1N2EEE", "012", "012", "210", 0);
        drawn(with(4, 1, 0, 1, 0), "N1N3EN0N2EEE", "1302", "0112", "2031", 0);
        drawn(with(3, 1, 0, 0), "N1N2EN0EE", "120", "011", "021", 0);
        drawn(with(4, 2, 0, 1, 0), "N1N3EN2EN0EE", "1320", "0111", "0231", 0);
        drawn(with(4, 3, 0, 0, 1), "N1N2EN3EEN0E", "1230", "0110", "3201", 3);
        ParkingRules set = with(3, 2, 1, 0);
        set.setRule(3, 0);
        set.setCapacity(1, 0);
        drawn(set, "N2EN1EN0E", "210", "000", "012", 0);
    }

    private static void drawn(ParkingRules x, String path, String labels, String areas,
            String word, int inversions) {
        check.same("path of " + list(x), path, path(x));
        int sum = 0;
        for (int row = 0; row < x.spaces(); row++) {
            int i = row;
            check.answers("label(" + i + ") of " + path, labels.charAt(i) - '0',
                () -> x.label(i));
            check.answers("areaOf(" + i + ") of " + path, areas.charAt(i) - '0',
                () -> x.areaOf(i));
            check.answers("word(" + i + ") of " + path, word.charAt(i) - '0', () -> x.word(i));
            sum += areas.charAt(i) - '0';
        }
        check.answers("area() of " + path, sum, x::area);
        check.answers("inversions() of " + path, inversions, x::inversions);
    }

    private static void pathRefusals() {
        ParkingRules standard = with(3, 0, 0, 1);
        for (int row : new int[] {-1, 3, LEAST, MOST}) {
            check.refuses("label", INDEX, standard, () -> standard.label(row));
            check.refuses("areaOf", INDEX, standard, () -> standard.areaOf(row));
            check.refuses("word", INDEX, standard, () -> standard.word(row));
        }
        for (int k : new int[] {-1, 9, LEAST, MOST}) {
            check.refuses("pathChar", INDEX, standard, () -> standard.pathChar(k));
        }
        ParkingRules[] others = {
            new ParkingRules(3), with(3, 0, 0), with(3, 0, 2, 2), with(3, 0, 0, 0, 0)};
        for (ParkingRules x : others) {
            check.refuses("label(3)", INDEX, x, () -> x.label(3));
            check.refuses("areaOf(-1)", INDEX, x, () -> x.areaOf(-1));
            check.refuses("word(3)", INDEX, x, () -> x.word(3));
            check.refuses("pathChar(9)", INDEX, x, () -> x.pathChar(9));
            check.refuses("label(2)", STATE, x, () -> x.label(2));
            check.refuses("areaOf(0)", STATE, x, () -> x.areaOf(0));
            check.refuses("area()", STATE, x, x::area);
            check.refuses("inversions()", STATE, x, x::inversions);
            check.refuses("word(0)", STATE, x, () -> x.word(0));
            check.refuses("pathChar(8)", STATE, x, () -> x.pathChar(8));
        }
    }

    /** Promises 36, 37. */
    private static void typing() {
        ParkingRules x = new ParkingRules(3);
        for (int c : new int[] {31, 127, -1, LEAST, MOST}) {
            check.refuses("type(" + c + ")", ARGUMENT, x, () -> x.type(c));
        }
        for (int i = 1; i <= 40; i++) {
            int length = i;
            check.answers("type", length, () -> x.type(length % 2 == 0 ? 32 : 126));
        }
        check.refuses("a type too many", STATE, x, () -> x.type(32));
        check.refuses("a wrong type too many", ARGUMENT, x, () -> x.type(31));
        check.answers("clearText()", 40, x::clearText);
        check.answers("clearText()", 0, x::clearText);
        check.answers("type", 1, () -> x.type(78));
        check.refuses("undo(): typing is no act", STATE, x, x::undo);
    }

    /** Promise 38. */
    private static void reading() {
        String[] paths = {"N0N1N2EEE", "N2EN1EN0E", "N1N2EN0EE", "N0EN1N2EE", "N2EN0N1EE"};
        int[] areas = {3, 0, 2, 1, 1};
        String[] lists = {"000", "210", "100", "011", "110"};
        for (int i = 0; i < paths.length; i++) {
            ParkingRules x = with(3, 2, 2, 2, 2);
            x.setCapacity(1, 2);
            int area = areas[i];
            String path = paths[i];
            check.answers("readPath() of " + path, area, () -> read(x, path));
            check.same("the list of " + path, lists[i], list(x));
            check.same("the path of " + path, path, path(x));
            check.answers("clearText() behind readPath()", 0, x::clearText);
            check.answers("undo() of readPath()", 5, x::undo);
            check.same("the list before " + path, "2222", list(x));
            check.answers("the text is not restored", -1, x::readPath);
        }
        ParkingRules wide = new ParkingRules(8);
        check.answers("readPath() of eight", 28, () -> read(wide, "N0N1N2N3N4N5N6N7EEEEEEEE"));
        check.answers("readPath() of eight", 0, () -> read(wide, "N7EN6EN5EN4EN3EN2EN1EN0E"));
        check.same("its list", "76543210", list(wide));
    }

    private static void wrongTexts() {
        wrong(0, "");
        wrong(0, "E");
        wrong(0, "0");
        wrong(0, " N0");
        wrong(0, "n");
        wrong(1, "N");
        wrong(1, "NN");
        wrong(1, "NE");
        wrong(1, "N3");
        wrong(1, "N/");
        wrong(1, "N:");
        wrong(2, "N0");
        wrong(2, "N00");
        wrong(3, "N0N0");
        wrong(3, "N1N0");
        wrong(4, "N0EN0");
        wrong(3, "N0EE");
        wrong(6, "N0EN1EE");
        wrong(6, "N0N1N2N");
        wrong(8, "N0N1N2EE");
        wrong(9, "N0N1N2EEEE");
        wrong(9, "N0N1N2EEEN");
        wrong(9, "N0N1N2EEE ");
        wrong(7, "N2EN1EN");
        wrong(7, "N2EN1EN1");
        check.answers("readPath(): a smaller label behind E", 1,
            () -> read(new ParkingRules(3), "N2EN0N1EE"));
    }

    private static void wrong(int index, String text) {
        ParkingRules x = with(3, 2, 1);
        long before = x.fingerprint();
        check.answers("readPath() of " + text, -1 - index, () -> read(x, text));
        check.same("nothing is changed", "" + before, "" + x.fingerprint());
        check.answers("readPath() again", -1 - index, x::readPath);
        check.answers("the text stays", text.length(), x::clearText);
        check.answers("undo(): it was no act", 1, x::undo);
    }

    /** Promise 39. */
    private static void undoing() {
        ParkingRules x = new ParkingRules(3);
        long[] prints = new long[7];
        prints[0] = x.fingerprint();
        x.addCar(2);
        prints[1] = x.fingerprint();
        x.setRule(3, 1);
        prints[2] = x.fingerprint();
        x.setCapacity(0, 2);
        prints[3] = x.fingerprint();
        x.addCar(2);
        prints[4] = x.fingerprint();
        x.setPreference(0, 1);
        prints[5] = x.fingerprint();
        for (int left = 4; left >= 0; left--) {
            int states = left;
            check.answers("undo()", states, x::undo);
            check.answers("fingerprint() after undo()", prints[left], x::fingerprint);
        }
        check.refuses("undo() of nothing", STATE, x, x::undo);
        x.addCar(1);
        x.addCar(0);
        check.answers("undo()", 1, x::undo);
        x.addCar(2);
        check.same("the list", "12", list(x));
        check.answers("undo()", 1, x::undo);
        check.same("the list", "1", list(x));
    }

    private static void historyOfSix() {
        ParkingRules x = new ParkingRules(8);
        for (int car = 0; car < 8; car++) {
            x.addCar(7 - car);
        }
        for (int left = 5; left >= 0; left--) {
            int states = left;
            check.answers("undo()", states, x::undo);
            check.same("the list", "76543210".substring(0, left + 2), list(x));
        }
        check.refuses("undo() of a dropped state", STATE, x, x::undo);
        check.same("the list", "76", list(x));
    }

    private static void everyActIsUndone() {
        String[] names = {"setRule", "setCapacity", "addCar", "setPreference", "removeCar",
            "clearCars", "setRank", "nextArrangement", "shift", "readPath"};
        for (int act = 0; act < names.length; act++) {
            ParkingRules x = with(3, 2, 1, 2);
            int kind = act;
            long before = x.fingerprint();
            check.same(names[act] + " is possible", "1", Check.outcome(() -> act(x, kind)));
            check.answers("undo() of " + names[act], 3, x::undo);
            check.answers("fingerprint() then", before, x::fingerprint);
        }
        ParkingRules same = with(3, 2);
        same.setRule(0, 0);
        same.setCapacity(0, 1);
        same.setPreference(0, 2);
        check.answers("acts that change nothing count", 3, same::undo);
        same.clearCars();
        same.clearCars();
        check.answers("clearCars() of none counts", 4, same::undo);
    }

    private static int act(ParkingRules x, int kind) {
        switch (kind) {
            case 0:
                return x.setRule(1, 1) == 0 ? 1 : 0;
            case 1:
                return x.setCapacity(2, 3);
            case 2:
                return x.addCar(0) == 3 ? 1 : 0;
            case 3:
                return x.setPreference(1, 0);
            case 4:
                return x.removeCar() == 2 ? 1 : 0;
            case 5:
                return x.clearCars() == 3 ? 1 : 0;
            case 6:
                return x.setRank(2, 1);
            case 7:
                return x.nextArrangement() ? 1 : 0;
            case 8:
                return x.shift() == 0 ? 1 : 0;
            default:
                return read(x, "N2EN0N1EE");
        }
    }

    /** Promise 40. */
    private static void fingerprints() {
        ParkingRules x = new ParkingRules(2);
        check.answers("fingerprint()", print(2, 1, 1, 0, 0, 0, 0, 0), x::fingerprint);
        x.setRule(3, 1);
        x.setCapacity(1, 2);
        x.addCar(1);
        x.addCar(1);
        x.addCar(1);
        x.addCar(1);
        check.answers("fingerprint()",
            print(2, 1, 2, 31, 4, 1, 1, 1, 1, 1, 1, 1, 0, 2, 1, -1, 2, 1, 3, 1), x::fingerprint);
    }

    private static long print(int... numbers) {
        long print = 61;
        for (int number : numbers) {
            print = 31 * print + number;
        }
        return print;
    }
}
