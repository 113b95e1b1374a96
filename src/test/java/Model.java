import java.util.ArrayDeque;
import java.util.ArrayList;
import java.util.Arrays;
import java.util.Collections;
import java.util.HashSet;
import java.util.List;
import java.util.Set;

/**
 * The document's words done in the most direct way, apart from the class under test: whole lists
 * are made, parked and compared one by one. Refusals are thrown as the document names them.
 */
final class Model {
    private static final class State {
        List<Integer> list = new ArrayList<>();
        int[] capacity;
        int rule = 0;
        int k = 0;

        State copy() {
            State copy = new State();
            copy.list = new ArrayList<>(list);
            copy.capacity = capacity.clone();
            copy.rule = rule;
            copy.k = k;
            return copy;
        }
    }

    /** What comes of parking a list. */
    private static final class Outcome {
        final List<Integer> space = new ArrayList<>();
        final List<Integer> steps = new ArrayList<>();
        int defect = 0;
        int lucky = 0;
        int displacement = 0;
    }

    private final int n;
    private State state = new State();
    private final ArrayDeque<State> history = new ArrayDeque<>();
    private String text = "";

    Model(int spaces) {
        n = spaces < 1 ? 1 : spaces > 8 ? 8 : spaces;
        state.capacity = new int[n];
        Arrays.fill(state.capacity, 1);
    }

    private void act() {
        history.addLast(state.copy());
        if (history.size() > 6) {
            history.removeFirst();
        }
    }

    private static void index(boolean good) {
        if (!good) {
            throw new IndexOutOfBoundsException();
        }
    }

    private static void argument(boolean good) {
        if (!good) {
            throw new IllegalArgumentException();
        }
    }

    private static void possible(boolean good) {
        if (!good) {
            throw new IllegalStateException();
        }
    }

    private boolean isCar(int car) {
        return car >= 0 && car < state.list.size();
    }

    private boolean isSpace(int space) {
        return space >= 0 && space < n;
    }

    int spaces() {
        return n;
    }

    int setRule(int rule, int k) {
        argument(rule >= 0 && rule <= 3 && k >= 0 && k <= 8);
        act();
        int before = state.rule * 10 + state.k;
        state.rule = rule;
        state.k = k;
        return before;
    }

    int setCapacity(int space, int capacity) {
        index(isSpace(space));
        argument(capacity >= 0 && capacity <= 3);
        act();
        int before = state.capacity[space];
        state.capacity[space] = capacity;
        return before;
    }

    int addCar(int preference) {
        argument(isSpace(preference));
        possible(state.list.size() < 9);
        act();
        state.list.add(preference);
        return state.list.size() - 1;
    }

    int setPreference(int car, int preference) {
        index(isCar(car));
        argument(isSpace(preference));
        act();
        return state.list.set(car, preference);
    }

    int removeCar() {
        possible(!state.list.isEmpty());
        act();
        state.list.remove(state.list.size() - 1);
        return state.list.size();
    }

    int clearCars() {
        act();
        int before = state.list.size();
        state.list.clear();
        return before;
    }

    int cars() {
        return state.list.size();
    }

    int preference(int car) {
        index(isCar(car));
        return state.list.get(car);
    }

    private static List<Integer> sequence(int n, int rule, int k, int p) {
        List<Integer> all = new ArrayList<>();
        all.add(p);
        if (rule == 1) {
            for (int d = 1; d <= k; d++) {
                all.add(p - d);
            }
        }
        if (rule == 0 || rule == 1) {
            for (int s = p + 1; s <= n - 1; s++) {
                all.add(s);
            }
        }
        if (rule == 2 || rule == 3) {
            for (int d = 1; d <= k; d++) {
                if (rule == 3) {
                    all.add(p - d);
                }
                all.add(p + d);
            }
        }
        all.removeIf(s -> s < 0 || s >= n);
        return all;
    }

    private static Outcome park(List<Integer> list, int[] capacity, int rule, int k) {
        Outcome outcome = new Outcome();
        int[] room = capacity.clone();
        for (int car = 0; car < list.size(); car++) {
            int p = list.get(car);
            int looked = 0;
            int found = -1;
            for (int space : sequence(capacity.length, rule, k, p)) {
                looked++;
                if (room[space] > 0) {
                    room[space]--;
                    found = space;
                    break;
                }
            }
            outcome.space.add(found);
            outcome.steps.add(looked);
            if (found < 0) {
                outcome.defect++;
            } else {
                outcome.displacement += found > p ? found - p : p - found;
                outcome.lucky += found == p ? 1 << car : 0;
            }
        }
        return outcome;
    }

    private Outcome park(List<Integer> list) {
        return park(list, state.capacity, state.rule, state.k);
    }

    int spaceOf(int car) {
        index(isCar(car));
        return park(state.list).space.get(car);
    }

    int steps(int car) {
        index(isCar(car));
        return park(state.list).steps.get(car);
    }

    int carsIn(int space) {
        index(isSpace(space));
        int set = 0;
        Outcome outcome = park(state.list);
        for (int car = 0; car < state.list.size(); car++) {
            set += outcome.space.get(car) == space ? 1 << car : 0;
        }
        return set;
    }

    int defect() {
        return park(state.list).defect;
    }

    int firstLeaving() {
        return park(state.list).space.indexOf(-1);
    }

    int lucky() {
        return park(state.list).lucky;
    }

    int displacement() {
        return park(state.list).displacement;
    }

    /** All lists of m cars, in their order. */
    private List<List<Integer>> lists(int m) {
        double power = 1;
        for (int i = 0; i < m; i++) {
            power *= n;
        }
        possible(power <= 50000);
        List<List<Integer>> lists = new ArrayList<>();
        for (int code = 0; code < (int) power; code++) {
            List<Integer> list = new ArrayList<>();
            int rest = code;
            for (int i = 0; i < m; i++) {
                list.add(0, rest % n);
                rest /= n;
            }
            lists.add(list);
        }
        return lists;
    }

    int countDefect(int cars, int defect) {
        argument(cars >= 0 && cars <= 9 && defect >= 0 && defect <= 9);
        return (int) lists(cars).stream().filter(l -> park(l).defect == defect).count();
    }

    int countLucky(int cars, int lucky) {
        argument(cars >= 0 && cars <= 9 && lucky >= 0 && lucky <= 9);
        return (int) lists(cars).stream().map(this::park)
            .filter(o -> o.defect == 0 && Integer.bitCount(o.lucky) == lucky).count();
    }

    private static int sum(List<Integer> list) {
        return list.stream().mapToInt(Integer::intValue).sum();
    }

    int countSum(int cars, int sum) {
        argument(cars >= 0 && cars <= 9 && sum >= 0 && sum <= 63);
        return (int) lists(cars).stream()
            .filter(l -> park(l).defect == 0 && sum(l) == sum).count();
    }

    private static int compare(List<Integer> a, List<Integer> b) {
        for (int i = 0; i < a.size(); i++) {
            if (!a.get(i).equals(b.get(i))) {
                return a.get(i) - b.get(i);
            }
        }
        return 0;
    }

    int rank() {
        return (int) lists(state.list.size()).stream()
            .filter(l -> compare(l, state.list) < 0 && park(l).defect == 0).count();
    }

    int setRank(int cars, int rank) {
        argument(cars >= 0 && cars <= 9 && rank >= 0);
        List<List<Integer>> parking = new ArrayList<>(lists(cars));
        parking.removeIf(l -> park(l).defect > 0);
        possible(parking.size() > rank);
        act();
        state.list = new ArrayList<>(parking.get(rank));
        return sum(state.list);
    }

    /** All arrangements of the list, each once, in their order. */
    private List<List<Integer>> allArrangements() {
        Set<List<Integer>> some = new HashSet<>();
        some.add(new ArrayList<>());
        for (int preference : state.list) {
            Set<List<Integer>> longer = new HashSet<>();
            for (List<Integer> list : some) {
                for (int at = 0; at <= list.size(); at++) {
                    List<Integer> one = new ArrayList<>(list);
                    one.add(at, preference);
                    longer.add(one);
                }
            }
            some = longer;
        }
        List<List<Integer>> sorted = new ArrayList<>(some);
        Collections.sort(sorted, Model::compare);
        return sorted;
    }

    int arrangements() {
        return allArrangements().size();
    }

    int parkingArrangements() {
        return (int) allArrangements().stream().filter(l -> park(l).defect == 0).count();
    }

    boolean nextArrangement() {
        act();
        List<List<Integer>> all = allArrangements();
        int next = all.indexOf(state.list) + 1;
        state.list = new ArrayList<>(all.get(next % all.size()));
        return next < all.size();
    }

    boolean isStandard() {
        int[] ones = new int[n];
        Arrays.fill(ones, 1);
        return state.list.size() == n && park(state.list, ones, 0, 0).defect == 0;
    }

    boolean isPrime() {
        boolean prime = isStandard();
        for (int j = 1; j <= n - 1; j++) {
            int bound = j;
            prime &= state.list.stream().filter(p -> p < bound).count() > j;
        }
        return prime;
    }

    int gap() {
        possible(state.list.size() == n);
        List<Integer> free = new ArrayList<>();
        for (int s = 0; s <= n; s++) {
            free.add(s);
        }
        for (int p : state.list) {
            int s = p;
            while (!free.contains(s)) {
                s = (s + 1) % (n + 1);
            }
            free.remove(Integer.valueOf(s));
        }
        return free.get(0);
    }

    int shift() {
        int gap = gap();
        act();
        state.list.replaceAll(p -> Math.floorMod(p - gap - 1, n + 1));
        return gap;
    }

    private String drawn() {
        possible(isStandard());
        StringBuilder path = new StringBuilder();
        for (int s = 0; s < n; s++) {
            for (int car = 0; car < n; car++) {
                if (state.list.get(car) == s) {
                    path.append('N').append(car);
                }
            }
            path.append('E');
        }
        return path.toString();
    }

    private String labels() {
        return drawn().replaceAll("[NE]", "");
    }

    int label(int row) {
        index(isSpace(row));
        return labels().charAt(row) - '0';
    }

    int areaOf(int row) {
        index(isSpace(row));
        return row - state.list.get(label(row));
    }

    int area() {
        possible(isStandard());
        int sum = 0;
        for (int row = 0; row < n; row++) {
            sum += areaOf(row);
        }
        return sum;
    }

    int inversions() {
        possible(isStandard());
        int pairs = 0;
        for (int j = 0; j < n; j++) {
            for (int i = 0; i < j; i++) {
                boolean level = areaOf(i) == areaOf(j) && label(i) < label(j);
                boolean above = areaOf(i) == areaOf(j) + 1 && label(i) > label(j);
                pairs += level || above ? 1 : 0;
            }
        }
        return pairs;
    }

    int word(int k) {
        index(isSpace(k));
        possible(isStandard());
        List<Integer> rows = new ArrayList<>();
        for (int row = 0; row < n; row++) {
            rows.add(row);
        }
        rows.sort((a, b) -> areaOf(a) != areaOf(b) ? areaOf(b) - areaOf(a) : b - a);
        return label(rows.get(k));
    }

    int pathChar(int k) {
        index(k >= 0 && k < 3 * n);
        return drawn().charAt(k);
    }

    int type(int c) {
        argument(c >= 32 && c <= 126);
        possible(text.length() < 40);
        text += (char) c;
        return text.length();
    }

    int clearText() {
        int before = text.length();
        text = "";
        return before;
    }

    /** The characters that are allowed behind a beginning that is not wrong itself. */
    private String allowedBehind(String begun) {
        long up = begun.chars().filter(c -> c == 'N').count();
        long right = begun.chars().filter(c -> c == 'E').count();
        StringBuilder allowed = new StringBuilder();
        if (begun.endsWith("N")) {
            for (char digit = '0'; digit < '0' + n; digit++) {
                boolean stepBeforeIsUp = begun.matches(".*[0-9]N");
                boolean greater =
                    !stepBeforeIsUp || digit > begun.charAt(begun.length() - 2);
                if (begun.indexOf(digit) < 0 && greater) {
                    allowed.append(digit);
                }
            }
            return allowed.toString();
        }
        return allowed.append(up < n ? "N" : "").append(right < up ? "E" : "").toString();
    }

    int readPath() {
        for (int i = 0; i < text.length(); i++) {
            if (allowedBehind(text.substring(0, i)).indexOf(text.charAt(i)) < 0) {
                return -1 - i;
            }
        }
        if (text.length() != 3 * n) {
            return -1 - text.length();
        }
        act();
        Integer[] list = new Integer[n];
        String[] parts = text.split("E", -1);
        for (int s = 0; s < n; s++) {
            for (char digit : parts[s].replace("N", "").toCharArray()) {
                list[digit - '0'] = s;
            }
        }
        state.list = new ArrayList<>(Arrays.asList(list));
        text = "";
        return area();
    }

    int undo() {
        possible(!history.isEmpty());
        state = history.removeLast();
        return history.size();
    }

    long fingerprint() {
        List<Integer> numbers = new ArrayList<>();
        numbers.add(n);
        for (int capacity : state.capacity) {
            numbers.add(capacity);
        }
        numbers.add(10 * state.rule + state.k);
        numbers.add(cars());
        for (int car = 0; car < cars(); car++) {
            Collections.addAll(numbers, preference(car), spaceOf(car), steps(car));
        }
        Collections.addAll(numbers, defect(), lucky(), displacement());
        long print = 61;
        for (int number : numbers) {
            print = print * 31 + number;
        }
        return print;
    }
}
