import java.util.Arrays;

/** A workbench for parking functions: ../shared/DOC.md says what each call does. */
public final class ParkingRules {
    private static final int MAX_SPACES = 8;
    private static final int MAX_CARS = 9;
    private static final int MAX_CAPACITY = 3;
    private static final int MAX_RULE = 3;
    private static final int MAX_REACH = 8;
    private static final int MAX_SUM = 63;
    private static final int MAX_LISTS = 50000;
    private static final int MAX_STATES = 6;
    private static final int MAX_TEXT = 40;
    private static final int FIRST_CODE = 32;
    private static final int LAST_CODE = 126;

    /** Stands where a space is asked for and the car has left. */
    private static final int NOWHERE = -1;

    /** What lists are counted by; by lucky cars or by the sum, only those that park. */
    private static final int BY_DEFECT = 0;
    private static final int BY_LUCKY = 1;
    private static final int BY_SUM = 2;

    private final int n;
    private final Setup now;
    private final History history;
    private final Lot lot;
    private final Memo memo;
    private final Path path;
    private final PathReader reader;
    private final int[] waiting;
    private final char[] text;
    private int textLength;

    public ParkingRules(int spaces) {
        n = Math.max(1, Math.min(MAX_SPACES, spaces));
        now = new Setup();
        history = new History();
        lot = new Lot(n);
        memo = new Memo();
        path = new Path(n);
        reader = new PathReader(n);
        waiting = new int[MAX_SPACES];
        text = new char[MAX_TEXT];
        textLength = 0;
    }

    public int spaces() {
        return n;
    }

    public int setRule(int rule, int k) throws IllegalArgumentException {
        requireArgument(isUpTo(rule, MAX_RULE) && isUpTo(k, MAX_REACH));
        history.keep(now);
        int previous = now.ruleNumber();
        now.rule = rule;
        now.reach = k;
        return previous;
    }

    public int setCapacity(int space, int capacity)
            throws IndexOutOfBoundsException, IllegalArgumentException {
        requireIndex(space, n);
        requireArgument(isUpTo(capacity, MAX_CAPACITY));
        history.keep(now);
        int previous = now.capacity[space];
        now.capacity[space] = capacity;
        return previous;
    }

    // ---- cars

    public int addCar(int preference) throws IllegalArgumentException, IllegalStateException {
        requireArgument(isUpTo(preference, n - 1));
        requireState(now.count < MAX_CARS);
        history.keep(now);
        int car = now.count;
        now.wish[car] = preference;
        now.count = car + 1;
        return car;
    }

    public int setPreference(int car, int preference)
            throws IndexOutOfBoundsException, IllegalArgumentException {
        requireIndex(car, now.count);
        requireArgument(isUpTo(preference, n - 1));
        history.keep(now);
        int previous = now.wish[car];
        now.wish[car] = preference;
        return previous;
    }

    public int removeCar() throws IllegalStateException {
        requireState(now.count > 0);
        history.keep(now);
        now.count--;
        return now.count;
    }

    public int clearCars() {
        history.keep(now);
        int previous = now.count;
        now.count = 0;
        return previous;
    }

    public int cars() {
        return now.count;
    }

    public int preference(int car) throws IndexOutOfBoundsException {
        requireIndex(car, now.count);
        return now.wish[car];
    }

    // ---- parking

    public int spaceOf(int car) throws IndexOutOfBoundsException {
        requireIndex(car, now.count);
        parkAll();
        return lot.place[car];
    }

    public int steps(int car) throws IndexOutOfBoundsException {
        requireIndex(car, now.count);
        parkAll();
        return lot.looked[car];
    }

    public int carsIn(int space) throws IndexOutOfBoundsException {
        requireIndex(space, n);
        parkAll();
        return lot.setOfCarsIn(space);
    }

    public int defect() {
        parkAll();
        return lot.countOfLeavers();
    }

    public int firstLeaving() {
        parkAll();
        return lot.firstLeaver();
    }

    public int lucky() {
        parkAll();
        return lot.setOfLuckyCars();
    }

    public int displacement() {
        parkAll();
        return lot.sumOfDistances();
    }

    private void parkAll() {
        lot.open(now);
        for (int car = 0; car < now.count; car++) {
            lot.arrive(now.wish[car]);
        }
    }

    // ---- counting

    public int countDefect(int cars, int defect)
            throws IllegalArgumentException, IllegalStateException {
        requireArgument(isUpTo(cars, MAX_CARS) && isUpTo(defect, MAX_CARS));
        return countAll(cars, BY_DEFECT, defect);
    }

    public int countLucky(int cars, int lucky)
            throws IllegalArgumentException, IllegalStateException {
        requireArgument(isUpTo(cars, MAX_CARS) && isUpTo(lucky, MAX_CARS));
        return countAll(cars, BY_LUCKY, lucky);
    }

    public int countSum(int cars, int sum)
            throws IllegalArgumentException, IllegalStateException {
        requireArgument(isUpTo(cars, MAX_CARS) && isUpTo(sum, MAX_SUM));
        return countAll(cars, BY_SUM, sum);
    }

    public int rank() throws IllegalStateException {
        requireState(isCountable(now.count));
        startCount();
        int before = 0;
        boolean parks = true;
        // Behind a car that leaves, no list that begins in the same way parks.
        for (int car = 0; car < now.count && parks; car++) {
            for (int space = 0; space < now.wish[car]; space++) {
                before += countBeginningWith(space, now.count - car - 1);
            }
            parks = lot.arrive(now.wish[car]);
        }
        return before;
    }

    public int setRank(int cars, int rank)
            throws IllegalArgumentException, IllegalStateException {
        requireArgument(isUpTo(cars, MAX_CARS) && rank >= 0);
        requireState(rank < countAll(cars, BY_DEFECT, 0));
        lot.open(now);
        int rest = rank;
        for (int car = 0; car < cars; car++) {
            rest -= parkNextOfRank(cars - car - 1, rest);
        }
        history.keep(now);
        int sum = 0;
        for (int car = 0; car < cars; car++) {
            now.wish[car] = lot.wish[car];
            sum += lot.wish[car];
        }
        now.count = cars;
        return sum;
    }

    private boolean isCountable(int cars) {
        int lists = 1;
        for (int car = 0; car < cars; car++) {
            lists *= n;
        }
        return lists <= MAX_LISTS;
    }

    private int countAll(int cars, int measure, int value) {
        requireState(isCountable(cars));
        startCount();
        return countLists(lot, memo, cars, measure, value);
    }

    private void startCount() {
        lot.open(now);
        memo.clear();
    }

    /**
     * Counts the ways in which the coming cars can go on behind those in the lot, so that the
     * coming ones bring the rest of the measured number. Depth: the coming cars, at most 9.
     */
    private static int countLists(Lot lot, Memo memo, int coming, int measure, int rest) {
        if (coming <= 0) {
            return rest == 0 ? 1 : 0;
        }
        // What follows depends on these alone: 16 bits, 4 bits, 6 bits.
        long key = lot.filling | (long) coming << 16 | (long) rest << 20;
        int known = memo.find(key);
        if (known != Memo.UNKNOWN) {
            return known;
        }
        int lists = 0;
        for (int space = 0; space < lot.spaces; space++) {
            boolean parks = lot.arrive(space);
            int restBehind = rest - shareOfLastCar(lot, measure);
            if ((parks || measure == BY_DEFECT) && restBehind >= 0) {
                lists += countLists(lot, memo, coming - 1, measure, restBehind);
            }
            lot.takeBackLast();
        }
        memo.put(key, lists);
        return lists;
    }

    private static int shareOfLastCar(Lot lot, int measure) {
        int car = lot.arrived - 1;
        switch (measure) {
            case BY_LUCKY:
                return lot.isLuckyCar(car) ? 1 : 0;
            case BY_SUM:
                return lot.wishOf(car);
            default:
                return lot.hasLeft(car) ? 1 : 0;
        }
    }

    /** Counts the parking lists that go on with this space behind the cars in the lot. */
    private int countBeginningWith(int space, int coming) {
        int lists = lot.arrive(space) ? countLists(lot, memo, coming, BY_DEFECT, 0) : 0;
        lot.takeBackLast();
        return lists;
    }

    /** Parks the next car of the list with this rank; returns how many lists it passes by. */
    private int parkNextOfRank(int coming, int rank) {
        int passed = 0;
        for (int space = 0; space < n; space++) {
            int lists = lot.arrive(space) ? countLists(lot, memo, coming, BY_DEFECT, 0) : 0;
            if (rank - passed < lists) {
                return passed;
            }
            lot.takeBackLast();
            passed += lists;
        }
        return passed;
    }

    // ---- arrangements

    public int arrangements() {
        int ways = 1;
        int placed = 0;
        for (int space = 0; space < n; space++) {
            int alike = now.countOfWishes(space);
            // A product of binomial coefficients: each division leaves no remainder.
            for (int i = 1; i <= alike; i++) {
                placed++;
                ways = ways * placed / i;
            }
        }
        return ways;
    }

    public int parkingArrangements() {
        for (int space = 0; space < n; space++) {
            waiting[space] = now.countOfWishes(space);
        }
        startCount();
        return countOrders(lot, memo, waiting, now.count);
    }

    public boolean nextArrangement() {
        history.keep(now);
        return toNextOrder(now.wish, now.count);
    }

    /**
     * Counts the orders in which the waiting cars can come so that all of them park; waiting has
     * their number for each preference. Depth: the coming cars, at most 9.
     */
    private static int countOrders(Lot lot, Memo memo, int[] waiting, int coming) {
        if (coming <= 0) {
            return 1;
        }
        // What follows depends on these alone: 32 bits, 16 bits.
        long key = keyOf(waiting) << 16 | lot.filling;
        int known = memo.find(key);
        if (known != Memo.UNKNOWN) {
            return known;
        }
        int orders = 0;
        for (int space = 0; space < lot.spaces && space < waiting.length; space++) {
            if (waiting[space] > 0) {
                waiting[space]--;
                if (lot.arrive(space)) {
                    orders += countOrders(lot, memo, waiting, coming - 1);
                }
                lot.takeBackLast();
                waiting[space]++;
            }
        }
        memo.put(key, orders);
        return orders;
    }

    private static long keyOf(int[] waiting) {
        long key = 0;
        for (int number : waiting) {
            key = key << 4 | number;
        }
        return key;
    }

    /** Makes the list its next order, or the smallest one if there is none: then false. */
    private static boolean toNextOrder(int[] list, int count) {
        int pivot = count - 2;
        while (pivot >= 0 && list[pivot] >= list[pivot + 1]) {
            pivot--;
        }
        if (pivot >= 0) {
            int other = count - 1;
            while (other > pivot && list[other] <= list[pivot]) {
                other--;
            }
            swap(list, pivot, other);
        }
        // What stands behind the pivot falls, so turned round it is the smallest order of it.
        int low = pivot + 1;
        int high = count - 1;
        while (low < high) {
            swap(list, low, high);
            low++;
            high--;
        }
        return pivot >= 0;
    }

    private static void swap(int[] list, int i, int j) {
        int kept = list[i];
        list[i] = list[j];
        list[j] = kept;
    }

    // ---- standard lists

    public boolean isStandard() {
        return now.isStandardFor(n);
    }

    public boolean isPrime() {
        if (!now.isStandardFor(n)) {
            return false;
        }
        for (int j = 1; j < n; j++) {
            if (now.countOfWishesBelow(j) <= j) {
                return false;
            }
        }
        return true;
    }

    public int gap() throws IllegalStateException {
        requireState(now.count == n);
        return gapOnCircle();
    }

    public int shift() throws IllegalStateException {
        requireState(now.count == n);
        int gap = gapOnCircle();
        history.keep(now);
        for (int car = 0; car < n; car++) {
            now.wish[car] = Math.floorMod(now.wish[car] - gap - 1, n + 1);
        }
        return gap;
    }

    private int gapOnCircle() {
        int taken = 0;
        for (int car = 0; car < now.count; car++) {
            taken |= 1 << firstFreeOnCircle(taken, now.wish[car]);
        }
        return firstFreeOnCircle(taken, 0);
    }

    private int firstFreeOnCircle(int taken, int from) {
        int space = from;
        for (int turn = 0; turn < n && (taken >> space & 1) != 0; turn++) {
            space = space < n ? space + 1 : 0;
        }
        return space;
    }

    // ---- paths

    public int label(int row) throws IndexOutOfBoundsException, IllegalStateException {
        requireIndex(row, n);
        drawPath();
        return path.labels[row];
    }

    public int areaOf(int row) throws IndexOutOfBoundsException, IllegalStateException {
        requireIndex(row, n);
        drawPath();
        return path.areas[row];
    }

    public int area() throws IllegalStateException {
        drawPath();
        return path.sumOfAreas();
    }

    public int inversions() throws IllegalStateException {
        drawPath();
        return path.countOfInversions();
    }

    public int word(int k) throws IndexOutOfBoundsException, IllegalStateException {
        requireIndex(k, n);
        drawPath();
        return path.labelInWord(k);
    }

    public int pathChar(int k) throws IndexOutOfBoundsException, IllegalStateException {
        requireIndex(k, 3 * n);
        drawPath();
        return path.charOfText(k);
    }

    private void drawPath() {
        requireState(now.isStandardFor(n));
        path.draw(now);
    }

    public int type(int c) throws IllegalArgumentException, IllegalStateException {
        requireArgument(c >= FIRST_CODE && c <= LAST_CODE);
        requireState(textLength < MAX_TEXT);
        text[textLength] = (char) c;
        textLength++;
        return textLength;
    }

    public int clearText() {
        int previous = textLength;
        textLength = 0;
        return previous;
    }

    public int readPath() {
        int wrong = reader.firstWrong(text, textLength);
        if (wrong >= 0) {
            return -1 - wrong;
        }
        history.keep(now);
        for (int car = 0; car < n; car++) {
            now.wish[car] = reader.wish[car];
        }
        now.count = n;
        textLength = 0;
        return reader.sumOfAreas;
    }

    // ---- undo

    public int undo() throws IllegalStateException {
        requireState(history.size > 0);
        history.restore(now);
        return history.size;
    }

    public long fingerprint() {
        parkAll();
        long print = mix(61L, n);
        for (int space = 0; space < n; space++) {
            print = mix(print, now.capacity[space]);
        }
        print = mix(print, now.ruleNumber());
        print = mix(print, now.count);
        for (int car = 0; car < now.count; car++) {
            print = mix(print, now.wish[car]);
            print = mix(print, lot.place[car]);
            print = mix(print, lot.looked[car]);
        }
        print = mix(print, lot.countOfLeavers());
        print = mix(print, lot.setOfLuckyCars());
        return mix(print, lot.sumOfDistances());
    }

    private static long mix(long print, long number) {
        return 31L * print + number;
    }

    // ---- what calls require

    private static boolean isUpTo(int value, int last) {
        return value >= 0 && value <= last;
    }

    private static void requireIndex(int index, int length) {
        if (index < 0 || index >= length) {
            throw new IndexOutOfBoundsException("there is nothing with this number");
        }
    }

    private static void requireArgument(boolean holds) {
        if (!holds) {
            throw new IllegalArgumentException("an argument is out of its range");
        }
    }

    private static void requireState(boolean holds) {
        if (!holds) {
            throw new IllegalStateException("the call is not possible now");
        }
    }

    /** What an act changes and undo restores: the cars, the capacities, the rule. */
    private static final class Setup {
        final int[] capacity;
        final int[] wish;
        int count;
        int rule;
        int reach;

        Setup() {
            capacity = new int[MAX_SPACES];
            wish = new int[MAX_CARS];
            for (int space = 0; space < MAX_SPACES; space++) {
                capacity[space] = 1;
            }
        }

        void copyFrom(Setup other) {
            System.arraycopy(other.capacity, 0, capacity, 0, MAX_SPACES);
            System.arraycopy(other.wish, 0, wish, 0, MAX_CARS);
            count = other.count;
            rule = other.rule;
            reach = other.reach;
        }

        int ruleNumber() {
            return 10 * rule + reach;
        }

        int countOfWishes(int space) {
            return countOfWishesBelow(space + 1) - countOfWishesBelow(space);
        }

        int countOfWishesBelow(int space) {
            int below = 0;
            for (int car = 0; car < count; car++) {
                if (wish[car] < space) {
                    below++;
                }
            }
            return below;
        }

        /** By rule 0 with capacities of 1, all park if the first j spaces have j wishes or more. */
        boolean isStandardFor(int spaces) {
            if (count != spaces) {
                return false;
            }
            for (int j = 1; j <= spaces; j++) {
                if (countOfWishesBelow(j) < j) {
                    return false;
                }
            }
            return true;
        }
    }

    /** The latest states, the oldest first. */
    private static final class History {
        final Setup[] kept;
        int size;

        History() {
            kept = new Setup[MAX_STATES];
            for (int i = 0; i < MAX_STATES; i++) {
                kept[i] = new Setup();
            }
        }

        void keep(Setup state) {
            if (size >= MAX_STATES) {
                dropOldest();
            }
            kept[size].copyFrom(state);
            size++;
        }

        /** The dropped state's object goes to the end, to be written again. */
        private void dropOldest() {
            Setup oldest = kept[0];
            for (int i = 1; i < MAX_STATES; i++) {
                kept[i - 1] = kept[i];
            }
            size = MAX_STATES - 1;
            kept[size] = oldest;
        }

        void restore(Setup state) {
            if (size > 0) {
                size--;
                state.copyFrom(kept[size]);
            }
        }
    }

    /** The spaces while cars arrive, one after the other; the last one can be taken back. */
    private static final class Lot {
        final int spaces;
        final int[] capacity;
        final int[] standing;
        final int[] wish;
        final int[] place;
        final int[] looked;
        int rule;
        int reach;
        int arrived;
        /** How many cars stand in each space, two bits a space. */
        int filling;

        Lot(int spaces) {
            this.spaces = spaces;
            capacity = new int[MAX_SPACES];
            standing = new int[MAX_SPACES];
            wish = new int[MAX_CARS];
            place = new int[MAX_CARS];
            looked = new int[MAX_CARS];
        }

        /** Empties the lot, and takes over the rule and the capacities. */
        void open(Setup setup) {
            for (int space = 0; space < spaces; space++) {
                capacity[space] = setup.capacity[space];
                standing[space] = 0;
            }
            rule = setup.rule;
            reach = setup.reach;
            arrived = 0;
            filling = 0;
        }

        /** Lets the next car arrive, and tells whether it parks. */
        boolean arrive(int preference) {
            if (arrived >= MAX_CARS) {
                return false;
            }
            int car = arrived;
            arrived++;
            wish[car] = preference;
            place[car] = NOWHERE;
            looked[car] = 0;
            return drive(car, preference);
        }

        void takeBackLast() {
            if (arrived <= 0) {
                return;
            }
            arrived--;
            int space = place[arrived];
            if (space >= 0 && space < spaces) {
                standing[space]--;
                filling -= 1 << 2 * space;
            }
        }

        private boolean drive(int car, int from) {
            switch (rule) {
                case 1:
                    return lookDown(car, from, from - reach) || lookUp(car, from + 1, spaces - 1);
                case 2:
                    return lookUp(car, from, from + reach);
                case 3:
                    return lookAround(car, from);
                default:
                    return lookUp(car, from, spaces - 1);
            }
        }

        private boolean lookUp(int car, int first, int last) {
            for (int space = first; space <= last; space++) {
                if (parksIn(car, space)) {
                    return true;
                }
            }
            return false;
        }

        private boolean lookDown(int car, int first, int last) {
            for (int space = first; space >= last; space--) {
                if (parksIn(car, space)) {
                    return true;
                }
            }
            return false;
        }

        private boolean lookAround(int car, int middle) {
            if (parksIn(car, middle)) {
                return true;
            }
            for (int distance = 1; distance <= reach; distance++) {
                if (parksIn(car, middle - distance) || parksIn(car, middle + distance)) {
                    return true;
                }
            }
            return false;
        }

        /** Lets the car look at the space, and park if it is free; skips one that is none. */
        private boolean parksIn(int car, int space) {
            if (space < 0 || space >= spaces) {
                return false;
            }
            looked[car]++;
            if (standing[space] >= capacity[space]) {
                return false;
            }
            standing[space]++;
            filling += 1 << 2 * space;
            place[car] = space;
            return true;
        }

        private boolean isCar(int car) {
            return car >= 0 && car < arrived;
        }

        boolean hasLeft(int car) {
            return isCar(car) && place[car] == NOWHERE;
        }

        boolean isLuckyCar(int car) {
            return isCar(car) && place[car] == wish[car];
        }

        int wishOf(int car) {
            return isCar(car) ? wish[car] : 0;
        }

        int countOfLeavers() {
            int leavers = 0;
            for (int car = 0; car < arrived; car++) {
                if (place[car] == NOWHERE) {
                    leavers++;
                }
            }
            return leavers;
        }

        int firstLeaver() {
            for (int car = 0; car < arrived; car++) {
                if (place[car] == NOWHERE) {
                    return car;
                }
            }
            return -1;
        }

        int setOfCarsIn(int space) {
            int set = 0;
            for (int car = 0; car < arrived; car++) {
                if (place[car] == space) {
                    set |= 1 << car;
                }
            }
            return set;
        }

        int setOfLuckyCars() {
            int set = 0;
            for (int car = 0; car < arrived; car++) {
                if (place[car] == wish[car]) {
                    set |= 1 << car;
                }
            }
            return set;
        }

        int sumOfDistances() {
            int sum = 0;
            for (int car = 0; car < arrived; car++) {
                if (place[car] != NOWHERE) {
                    sum += Math.abs(place[car] - wish[car]);
                }
            }
            return sum;
        }
    }

    /**
     * Counts that one call has made, by keys for what they depend on, so that the dear calls do
     * not go again through all that lies behind the same filling of the lot. A count may be
     * dropped for a later one, and is then made again.
     */
    private static final class Memo {
        static final int UNKNOWN = -1;
        private static final long NO_KEY = -1L;
        private static final int BITS = 10;

        final long[] keys;
        final int[] counts;

        Memo() {
            keys = new long[1 << BITS];
            counts = new int[1 << BITS];
        }

        void clear() {
            Arrays.fill(keys, NO_KEY);
        }

        int find(long key) {
            int slot = slotOf(key);
            return keys[slot] == key ? counts[slot] : UNKNOWN;
        }

        void put(long key, int count) {
            int slot = slotOf(key);
            keys[slot] = key;
            counts[slot] = count;
        }

        /** The upper bits of the product: from 0 to the last slot for every key. */
        private static int slotOf(long key) {
            return (int) (key * 0x9E3779B97F4A7C15L >>> 64 - BITS);
        }
    }

    /** The path of a standard list, by its rows from the bottom. */
    private static final class Path {
        final int steps;
        final int[] labels;
        final int[] areas;

        Path(int steps) {
            this.steps = steps;
            labels = new int[MAX_SPACES];
            areas = new int[MAX_SPACES];
        }

        void draw(Setup list) {
            int row = 0;
            for (int space = 0; space < steps; space++) {
                for (int car = 0; car < list.count; car++) {
                    if (list.wish[car] == space && row < steps) {
                        labels[row] = car;
                        areas[row] = row - space;
                        row++;
                    }
                }
            }
        }

        int sumOfAreas() {
            int sum = 0;
            for (int row = 0; row < steps; row++) {
                sum += areas[row];
            }
            return sum;
        }

        int countOfInversions() {
            int inversions = 0;
            for (int i = 0; i < steps; i++) {
                for (int j = i + 1; j < steps; j++) {
                    if (isInversion(i, j)) {
                        inversions++;
                    }
                }
            }
            return inversions;
        }

        private boolean isInversion(int i, int j) {
            return areas[i] == areas[j] && labels[i] < labels[j]
                || areas[i] == areas[j] + 1 && labels[i] > labels[j];
        }

        int labelInWord(int k) {
            int index = 0;
            for (int wanted = steps - 1; wanted >= 0; wanted--) {
                for (int row = steps - 1; row >= 0; row--) {
                    if (areas[row] == wanted) {
                        if (index == k) {
                            return labels[row];
                        }
                        index++;
                    }
                }
            }
            return -1;
        }

        int charOfText(int k) {
            int index = 0;
            int row = 0;
            for (int space = 0; space < steps; space++) {
                while (row < steps && row - areas[row] == space) {
                    if (index == k) {
                        return 'N';
                    }
                    if (index + 1 == k) {
                        return '0' + labels[row];
                    }
                    index += 2;
                    row++;
                }
                if (index == k) {
                    return 'E';
                }
                index++;
            }
            return -1;
        }
    }

    /** Reads a text as a path, character by character. */
    private static final class PathReader {
        private static final int NO_LABEL = -1;
        private static final int NO_WISH = -1;

        final int steps;
        final int[] wish;
        int sumOfAreas;
        private int ups;
        private int rights;
        private int labelBefore;
        private boolean labelIsDue;

        PathReader(int steps) {
            this.steps = steps;
            wish = new int[MAX_SPACES];
        }

        /** Returns the index of the wrong character, the length of a text too short, or -1. */
        int firstWrong(char[] text, int length) {
            begin();
            for (int i = 0; i < length && i < text.length; i++) {
                if (!takes(text[i])) {
                    return i;
                }
            }
            return ups == steps && rights == steps ? -1 : length;
        }

        private void begin() {
            for (int car = 0; car < steps; car++) {
                wish[car] = NO_WISH;
            }
            sumOfAreas = 0;
            ups = 0;
            rights = 0;
            labelBefore = NO_LABEL;
            labelIsDue = false;
        }

        private boolean takes(char c) {
            if (labelIsDue) {
                return takesLabel(c - '0');
            }
            if (c == 'N' && ups < steps) {
                labelIsDue = true;
                return true;
            }
            if (c == 'E' && rights < ups) {
                rights++;
                labelBefore = NO_LABEL;
                return true;
            }
            return false;
        }

        private boolean takesLabel(int label) {
            if (label < 0 || label >= steps || wish[label] != NO_WISH || label <= labelBefore) {
                return false;
            }
            wish[label] = rights;
            sumOfAreas += ups - rights;
            ups++;
            labelBefore = label;
            labelIsDue = false;
            return true;
        }
    }
}
