/** Long runs of calls, chosen by a fixed sequence of numbers, against the model. */
public final class ModelTest {
    private static final int RUNS = 300;
    private static final int CALLS = 512;

    private final Check check;
    private long seed;

    private ModelTest(Check check, long seed) {
        this.check = check;
        this.seed = seed;
    }

    public static void main(String[] args) {
        Check check = new Check("ModelTest");
        for (int run = 0; run < RUNS && check.wrong() == 0; run++) {
            new ModelTest(check, 1000003L * run + 17).run(run);
        }
        check.end();
    }

    private int pick(int bound) {
        seed = seed * 6364136223846793005L + 1442695040888963407L;
        return (int) ((seed >>> 33) % bound);
    }

    /** From -1 to last + 1, and now and then far outside. */
    private int around(int last) {
        int far = pick(60);
        if (far == 0) {
            return Integer.MAX_VALUE;
        }
        if (far == 1) {
            return Integer.MIN_VALUE;
        }
        return pick(5) == 0 ? pick(last + 3) - 1 : pick(last + 1);
    }

    private void run(int run) {
        int spaces = pick(20) == 0 ? pick(40) - 20 : 1 + pick(8);
        ParkingRules x = new ParkingRules(spaces);
        Model m = new Model(spaces);
        for (int call = 0; call < CALLS && check.wrong() == 0; call++) {
            String where = "run " + run + " (" + spaces + " spaces), call " + call + ", ";
            if (pick(40) == 0 && call + 30 < CALLS) {
                call += typePath(where, x, m);
            }
            step(where, pick(100), x, m);
            check.answers(where + "fingerprint()", m.fingerprint(), x::fingerprint);
        }
    }

    private void compare(String call, Check.Call due, Check.Call got) {
        check.same(call, Check.outcome(due), Check.outcome(got));
    }

    /** Types the text of a path, sometimes with one character wrong, missing or too many. */
    private int typePath(String where, ParkingRules x, Model m) {
        compare(where + "clearText()", m::clearText, x::clearText);
        int n = m.spaces();
        int skipped = pick(3) == 0 ? pick(3 * n) : -1;
        int changed = pick(3) == 0 ? pick(3 * n) : -1;
        String path = randomPath(n);
        int calls = 1;
        for (int i = 0; i < path.length(); i++) {
            int c = i == changed ? "NE012345678 ".charAt(pick(12)) : path.charAt(i);
            if (i != skipped) {
                compare(where + "type(" + c + ")", () -> m.type(c), () -> x.type(c));
                calls++;
            }
        }
        compare(where + "readPath() of " + path, m::readPath, x::readPath);
        return calls + 1;
    }

    private String randomPath(int n) {
        int[] list = new int[n];
        for (int car = 0; car < n; car++) {
            list[car] = pick(n + 1);
        }
        // Of the n + 1 lists that differ by a turn of the circle, one is standard.
        for (int turn = 0; turn <= n; turn++) {
            StringBuilder path = new StringBuilder();
            int ups = 0;
            boolean good = true;
            for (int s = 0; s < n; s++) {
                for (int car = 0; car < n; car++) {
                    if ((list[car] + turn) % (n + 1) == s) {
                        path.append('N').append(car);
                        ups++;
                    }
                }
                path.append('E');
                good &= ups > s;
            }
            if (good) {
                return path.toString();
            }
        }
        return "";
    }

    private void step(String where, int kind, ParkingRules x, Model m) {
        if (kind < 40) {
            change(where, x, m);
        } else if (kind < 60) {
            parking(where, x, m);
        } else if (kind < 75) {
            standard(where, x, m);
        } else if (kind < 90) {
            paths(where, x, m);
        } else if (kind < 97) {
            arranging(where, x, m);
        } else {
            counting(where, x, m);
        }
    }

    private void change(String where, ParkingRules x, Model m) {
        int n = m.spaces();
        int a = around(n - 1);
        int b = around(8);
        int c = around(3);
        int length = m.cars();
        switch (pick(14)) {
            case 0, 1, 2, 3, 4:
                if (length < n || pick(6) == 0) {
                    compare(where + "addCar(" + a + ")", () -> m.addCar(a), () -> x.addCar(a));
                }
                break;
            case 5, 6:
                compare(where + "setPreference(" + b + ", " + a + ")",
                    () -> m.setPreference(b, a), () -> x.setPreference(b, a));
                break;
            case 7:
                compare(where + "setRule(" + c + ", " + b + ")",
                    () -> m.setRule(c, b), () -> x.setRule(c, b));
                break;
            case 8:
                compare(where + "setCapacity(" + a + ", " + c + ")",
                    () -> m.setCapacity(a, c), () -> x.setCapacity(a, c));
                break;
            case 9:
                compare(where + "removeCar()", m::removeCar, x::removeCar);
                break;
            case 10:
                if (pick(8) == 0) {
                    compare(where + "clearCars()", m::clearCars, x::clearCars);
                }
                break;
            case 11, 12:
                compare(where + "undo()", m::undo, x::undo);
                break;
            default:
                compare(where + "shift()", m::shift, x::shift);
                break;
        }
    }

    private void parking(String where, ParkingRules x, Model m) {
        int car = around(Math.max(0, m.cars() - 1));
        int space = around(m.spaces() - 1);
        compare(where + "spaces()", m::spaces, x::spaces);
        compare(where + "cars()", m::cars, x::cars);
        compare(where + "preference(" + car + ")",
            () -> m.preference(car), () -> x.preference(car));
        compare(where + "spaceOf(" + car + ")", () -> m.spaceOf(car), () -> x.spaceOf(car));
        compare(where + "steps(" + car + ")", () -> m.steps(car), () -> x.steps(car));
        compare(where + "carsIn(" + space + ")", () -> m.carsIn(space), () -> x.carsIn(space));
        compare(where + "defect()", m::defect, x::defect);
        compare(where + "firstLeaving()", m::firstLeaving, x::firstLeaving);
        compare(where + "lucky()", m::lucky, x::lucky);
        compare(where + "displacement()", m::displacement, x::displacement);
    }

    private void standard(String where, ParkingRules x, Model m) {
        compare(where + "isStandard()", Check.of(m::isStandard), Check.of(x::isStandard));
        compare(where + "isPrime()", Check.of(m::isPrime), Check.of(x::isPrime));
        compare(where + "gap()", m::gap, x::gap);
    }

    private void paths(String where, ParkingRules x, Model m) {
        int row = around(m.spaces() - 1);
        int k = around(3 * m.spaces() - 1);
        int c = pick(10) == 0 ? 30 + pick(100) : "NE01234567".charAt(pick(10));
        if (pick(2) == 0) {
            compare(where + "shift()", m::shift, x::shift);
        }
        compare(where + "label(" + row + ")", () -> m.label(row), () -> x.label(row));
        compare(where + "areaOf(" + row + ")", () -> m.areaOf(row), () -> x.areaOf(row));
        compare(where + "area()", m::area, x::area);
        compare(where + "inversions()", m::inversions, x::inversions);
        compare(where + "word(" + row + ")", () -> m.word(row), () -> x.word(row));
        compare(where + "pathChar(" + k + ")", () -> m.pathChar(k), () -> x.pathChar(k));
        compare(where + "type(" + c + ")", () -> m.type(c), () -> x.type(c));
        compare(where + "readPath()", m::readPath, x::readPath);
    }

    private void arranging(String where, ParkingRules x, Model m) {
        if (m.cars() > 6 && pick(8) != 0 || m.cars() > 8) {
            return;
        }
        compare(where + "arrangements()", m::arrangements, x::arrangements);
        compare(where + "parkingArrangements()",
            m::parkingArrangements, x::parkingArrangements);
        compare(where + "nextArrangement()",
            Check.of(m::nextArrangement), Check.of(x::nextArrangement));
    }

    private void counting(String where, ParkingRules x, Model m) {
        int cars = pick(4) == 0 ? around(9) : pick(5);
        int number = around(9);
        int sum = pick(3) == 0 ? around(63) : pick(2 * m.spaces());
        int rank = pick(3) == 0 ? around(2000) : pick(40);
        switch (pick(5)) {
            case 0:
                compare(where + "countDefect(" + cars + ", " + number + ")",
                    () -> m.countDefect(cars, number), () -> x.countDefect(cars, number));
                break;
            case 1:
                compare(where + "countLucky(" + cars + ", " + number + ")",
                    () -> m.countLucky(cars, number), () -> x.countLucky(cars, number));
                break;
            case 2:
                compare(where + "countSum(" + cars + ", " + sum + ")",
                    () -> m.countSum(cars, sum), () -> x.countSum(cars, sum));
                break;
            case 3:
                compare(where + "rank()", m::rank, x::rank);
                break;
            default:
                compare(where + "setRank(" + cars + ", " + rank + ")",
                    () -> m.setRank(cars, rank), () -> x.setRank(cars, rank));
                break;
        }
    }
}
