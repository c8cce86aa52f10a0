/**
 * Sums for a ship's stability.
 *
 * Every row is made once, by the constructor; no call makes an object but the exception it throws.
 * What a call looks at (a value, a limit, a pumping, a step) is worked out in sums that are
 * gathered anew from the ship, so looking never changes the ship itself.
 */
public final class StabilitySums {
    /** None. */
    public static final int NONE = -1;

    private static final int MOST_WEIGHTS = 40;
    private static final int MOST_TANKS = 4;
    private static final int MOST_ROWS = 12;
    private static final int MOST_LIMITS = 10;
    private static final int MOST_STEPS = 20;

    private static final long FARTHEST_PLACE = 10000L;
    private static final long HEAVIEST = 100000L;
    private static final long LARGEST_TANK = 40000L;
    private static final long LARGEST_SURFACE = 1000000000L;
    private static final long LARGEST_DISPLACEMENT = 5000000L;
    private static final long LARGEST_BOUND = 10000000000000L;

    private static final long QUARTERS = 4L;
    /** A tank is empty or has one to four quarters. */
    private static final int FILLINGS = 5;

    private static final int DISPLACEMENT = 0;
    private static final int CENTRE_X = 1;
    private static final int CENTRE_Y = 2;
    private static final int CENTRE_Z = 3;
    private static final int CENTRE_Z_WITH_SURFACES = 4;
    private static final int STABILITY = 5;
    private static final int DRAFT = 6;
    private static final int TRIM = 7;
    private static final int SHEAR = 8;
    private static final int BENDING = 9;

    private static final int ROUNDED_DOWN = 0;
    private static final int NUMERATOR = 1;
    private static final int DENOMINATOR = 2;

    /** The cut that a caller asks for; the cuts behind it belong to the limits of their number. */
    private static final int ASKED_CUT = 0;

    private final Weights weights;
    private final Tanks tanks;
    private final Table table;
    private final Limits limits;
    private final Steps steps;
    private final Sums sums;
    private final Cuts cuts;
    private final Fraction fraction;
    private long left;
    private long right;

    public StabilitySums() {
        weights = new Weights();
        tanks = new Tanks();
        table = new Table();
        limits = new Limits();
        steps = new Steps();
        sums = new Sums();
        cuts = new Cuts();
        fraction = new Fraction();
        left = 0L;
        right = FARTHEST_PLACE;
    }

    public int weight(long kg, long x, long y, long z)
            throws IllegalArgumentException, IllegalStateException {
        if (kg == 0L || !isWithin(kg, -HEAVIEST, HEAVIEST) || !arePlaces(x, y, z)) {
            throw new IllegalArgumentException("a weight can't be so");
        }
        if (weights.count >= MOST_WEIGHTS) {
            throw new IllegalStateException("there are 40 weights");
        }
        return weights.append(kg, x, y, z);
    }

    public int tank(long most, long surface, long x, long y, long z)
            throws IllegalArgumentException, IllegalStateException {
        if (!isWithin(most, QUARTERS, LARGEST_TANK) || most % QUARTERS != 0L
                || !isWithin(surface, 0L, LARGEST_SURFACE) || !arePlaces(x, y, z)) {
            throw new IllegalArgumentException("a tank can't be so");
        }
        if (tanks.count >= MOST_TANKS) {
            throw new IllegalStateException("there are 4 tanks");
        }
        return tanks.append(most, surface, x, y, z);
    }

    public int filled(int tank, long kg) throws IndexOutOfBoundsException {
        if (!isWithin(tank, 0L, tanks.count - 1L)) {
            throw new IndexOutOfBoundsException("no such tank");
        }
        if (!isWithin(kg, 0L, tanks.most[tank])) {
            return 0;
        }
        tanks.filled[tank] = kg;
        return 1;
    }

    public int hydro(long displacement, long height, long draft)
            throws IllegalArgumentException, IllegalStateException {
        if (!isWithin(displacement, 1L, LARGEST_DISPLACEMENT) || !isPlace(height) || !isPlace(draft)
                || displacement <= table.lastDisplacement()) {
            throw new IllegalArgumentException("a row can't be so");
        }
        if (table.count >= MOST_ROWS) {
            throw new IllegalStateException("there are 12 rows");
        }
        return table.append(displacement, height, draft);
    }

    public boolean hull(long left, long right) {
        if (!isPlace(left) || !isPlace(right) || left >= right) {
            return false;
        }
        this.left = left;
        this.right = right;
        return true;
    }

    public long value(int what, int side) throws IllegalArgumentException, ArithmeticException {
        if (!isWithin(what, DISPLACEMENT, TRIM) || !isWithin(side, ROUNDED_DOWN, DENOMINATOR)) {
            throw new IllegalArgumentException("no such value or side");
        }
        gather();
        if (isWithoutAnswer(what)) {
            throw new ArithmeticException("the displacement is 0");
        }
        work(what);
        if (side == ROUNDED_DOWN) {
            return fraction.floor();
        }
        fraction.reduce();
        return side == NUMERATOR ? fraction.top : fraction.bottom;
    }

    public long shear(long x) throws IllegalArgumentException {
        if (!isPlace(x)) {
            throw new IllegalArgumentException("no such place");
        }
        cuts.place[ASKED_CUT] = x;
        gather();
        return shearAt(ASKED_CUT);
    }

    public long bending(long x) throws IllegalArgumentException {
        if (!isPlace(x)) {
            throw new IllegalArgumentException("no such place");
        }
        cuts.place[ASKED_CUT] = x;
        gather();
        return bendingAt(ASKED_CUT);
    }

    public int limit(int what, long cut, long low, long high)
            throws IllegalArgumentException, IllegalStateException {
        if (!isWithin(what, DISPLACEMENT, BENDING) || low > high
                || low < -LARGEST_BOUND || high > LARGEST_BOUND || !isPlace(cut)) {
            throw new IllegalArgumentException("a limit can't be so");
        }
        if (limits.count >= MOST_LIMITS) {
            throw new IllegalStateException("there are 10 limits");
        }
        int number = limits.append(what, low, high);
        cuts.place[number] = cut;
        return number;
    }

    public int check() {
        gather();
        return leastBroken();
    }

    public long ballast() {
        return findPumping();
    }

    public long fill(int tank) throws IndexOutOfBoundsException {
        if (!isWithin(tank, 0L, tanks.count - 1L)) {
            throw new IndexOutOfBoundsException("no such tank");
        }
        return findPumping() == NONE ? NONE : tanks.found[tank];
    }

    public int plan(boolean isTank, int number, long kg)
            throws IndexOutOfBoundsException, IllegalArgumentException, IllegalStateException {
        int things = isTank ? tanks.count : weights.count;
        if (!isWithin(number, 0L, things - 1L)) {
            throw new IndexOutOfBoundsException("no such tank or weight");
        }
        long least = isTank ? 0L : -HEAVIEST;
        long most = isTank ? tanks.most[number] : HEAVIEST;
        if (!isWithin(kg, least, most)) {
            throw new IllegalArgumentException("a step can't be so");
        }
        if (steps.count >= MOST_STEPS) {
            throw new IllegalStateException("there are 20 steps");
        }
        return steps.append(isTank, number, kg);
    }

    public int step(int i) throws IndexOutOfBoundsException {
        if (!isWithin(i, 0L, steps.count - 1L)) {
            throw new IndexOutOfBoundsException("no such step");
        }
        gather();
        for (int done = 0; done <= i; done++) {
            tryStep(done);
        }
        return leastBroken();
    }

    public int broken() {
        gather();
        for (int i = 0; i < steps.count; i++) {
            tryStep(i);
            if (leastBroken() != 0) {
                return i;
            }
        }
        return NONE;
    }

    public int count(int what) {
        switch (what) {
            case 0:
                return weights.count;
            case 1:
                return tanks.count;
            case 2:
                return table.count;
            case 3:
                return limits.count;
            case 4:
                return steps.count;
            case 5:
                return tanks.countSlack();
            default:
                return NONE;
        }
    }

    private static boolean isWithin(long number, long least, long most) {
        return number >= least && number <= most;
    }

    private static boolean isPlace(long number) {
        return isWithin(number, -FARTHEST_PLACE, FARTHEST_PLACE);
    }

    private static boolean arePlaces(long x, long y, long z) {
        return isPlace(x) && isPlace(y) && isPlace(z);
    }

    private static long divideDown(long top, long bottom) {
        // No caller has a divisor below 1; the test keeps the machine from ever throwing here.
        return bottom > 0L ? Math.floorDiv(top, bottom) : 0L;
    }

    /** Brings the sums and the tanks' tried fillings to what is there. */
    private void gather() {
        sums.clear();
        cuts.clear(limits.count);
        for (int i = 0; i < weights.count; i++) {
            tryMore(i, weights.kg[i]);
        }
        for (int i = 0; i < tanks.count; i++) {
            tanks.tried[i] = 0L;
            tryFilling(i, tanks.filled[i]);
        }
    }

    private void tryMore(int weight, long kg) {
        sums.add(kg, weights.x[weight], weights.y[weight], weights.z[weight]);
        cuts.add(kg, weights.x[weight]);
    }

    private void tryFilling(int tank, long kg) {
        long more = kg - tanks.tried[tank];
        if (more == 0L) {
            return;
        }
        sums.surfaces -= tanks.surfaceOf(tank, tanks.tried[tank]);
        sums.surfaces += tanks.surfaceOf(tank, kg);
        sums.add(more, tanks.x[tank], tanks.y[tank], tanks.z[tank]);
        cuts.add(more, tanks.x[tank]);
        tanks.tried[tank] = kg;
    }

    private void tryStep(int i) {
        if (steps.ofTank[i]) {
            tryFilling(steps.number[i], steps.kg[i]);
        } else {
            tryMore(steps.number[i], steps.kg[i]);
        }
    }

    /** Whether the value would divide by a displacement of 0. */
    private boolean isWithoutAnswer(int what) {
        return sums.displacement == 0L && what != DISPLACEMENT && what != DRAFT;
    }

    /** Puts a value of the gathered sums into the fraction, not yet in lowest terms. */
    private void work(int what) {
        long d = sums.displacement;
        switch (what) {
            case CENTRE_X:
                fraction.put(sums.x, d);
                break;
            case CENTRE_Y:
                fraction.put(sums.y, d);
                break;
            case CENTRE_Z:
                fraction.put(sums.z, d);
                break;
            case CENTRE_Z_WITH_SURFACES:
                fraction.put(sums.z + sums.surfaces, d);
                break;
            case STABILITY:
                table.read(table.height, d, fraction);
                fraction.put(fraction.top * d - (sums.z + sums.surfaces) * fraction.bottom,
                        fraction.bottom * d);
                break;
            case DRAFT:
                table.read(table.draft, d, fraction);
                break;
            case TRIM:
                // Doubled, since the middle may lie at a half.
                fraction.put(2L * sums.x - d * (left + right), 2L * d);
                break;
            default:
                fraction.put(d, 1L);
                break;
        }
    }

    private long shearAt(int cut) {
        long x = cuts.place[cut];
        long kg = cuts.kg[cut];
        if (x <= left) {
            return kg;
        }
        if (x >= right) {
            return kg - sums.displacement;
        }
        long length = right - left;
        return divideDown(kg * length - sums.displacement * (x - left), length);
    }

    private long bendingAt(int cut) {
        long x = cuts.place[cut];
        long turn = cuts.turn[cut];
        if (x <= left) {
            return turn;
        }
        if (x >= right) {
            return divideDown(2L * turn - sums.displacement * (2L * x - left - right), 2L);
        }
        long ahead = x - left;
        long twoLengths = 2L * (right - left);
        return divideDown(turn * twoLengths - sums.displacement * ahead * ahead, twoLengths);
    }

    /** The least limit that the gathered sums break, 0 without. */
    private int leastBroken() {
        for (int number = 1; number <= limits.count; number++) {
            if (breaks(number)) {
                return number;
            }
        }
        return 0;
    }

    private boolean breaks(int number) {
        int what = limits.what[number];
        if (what == SHEAR || what == BENDING) {
            // Both are whole by their own definition, so there is nothing left to round up.
            long whole = what == SHEAR ? shearAt(number) : bendingAt(number);
            return !limits.allows(number, whole, whole);
        }
        if (isWithoutAnswer(what)) {
            return true;
        }
        work(what);
        // A fraction lies between whole bounds exactly if both its roundings do; this needs no
        // product of a bound and a denominator, which could be too large for a long.
        return !limits.allows(number, fraction.floor(), fraction.ceiling());
    }

    /** The least work of a pumping, its fillings being left in the tanks' found ones; or NONE. */
    private long findPumping() {
        int settings = 1;
        for (int i = 0; i < tanks.count; i++) {
            settings *= FILLINGS;
        }
        gather();
        long least = NONE;
        // Settings rise as the tanks are compared, so of equal works the first one stays.
        for (int setting = 0; setting < settings; setting++) {
            trySetting(setting);
            long work = tanks.workOfTried();
            if ((least == NONE || work < least) && leastBroken() == 0) {
                least = work;
                tanks.keepTried();
            }
        }
        return least;
    }

    /** A setting's digits are the tanks' quarters, those of the last tank being the lowest digit. */
    private void trySetting(int setting) {
        int rest = setting;
        for (int i = tanks.count - 1; i >= 0; i--) {
            tryFilling(i, tanks.most[i] / QUARTERS * (rest % FILLINGS));
            rest /= FILLINGS;
        }
    }

    private static final class Weights {
        final long[] kg = new long[MOST_WEIGHTS];
        final long[] x = new long[MOST_WEIGHTS];
        final long[] y = new long[MOST_WEIGHTS];
        final long[] z = new long[MOST_WEIGHTS];
        int count = 0;

        int append(long newKg, long newX, long newY, long newZ) {
            int number = count;
            kg[number] = newKg;
            x[number] = newX;
            y[number] = newY;
            z[number] = newZ;
            count++;
            return number;
        }
    }

    private static final class Tanks {
        final long[] most = new long[MOST_TANKS];
        final long[] surface = new long[MOST_TANKS];
        final long[] x = new long[MOST_TANKS];
        final long[] y = new long[MOST_TANKS];
        final long[] z = new long[MOST_TANKS];
        final long[] filled = new long[MOST_TANKS];
        /** The fillings that the gathered sums stand for. */
        final long[] tried = new long[MOST_TANKS];
        /** The fillings of the best pumping that was found last. */
        final long[] found = new long[MOST_TANKS];
        int count = 0;

        int append(long newMost, long newSurface, long newX, long newY, long newZ) {
            int number = count;
            most[number] = newMost;
            surface[number] = newSurface;
            x[number] = newX;
            y[number] = newY;
            z[number] = newZ;
            count++;
            return number;
        }

        boolean isSlack(int tank, long kg) {
            return kg > 0L && kg < most[tank];
        }

        long surfaceOf(int tank, long kg) {
            return isSlack(tank, kg) ? surface[tank] : 0L;
        }

        int countSlack() {
            int slack = 0;
            for (int i = 0; i < count; i++) {
                if (isSlack(i, filled[i])) {
                    slack++;
                }
            }
            return slack;
        }

        long workOfTried() {
            long work = 0L;
            for (int i = 0; i < count; i++) {
                work += Math.abs(tried[i] - filled[i]);
            }
            return work;
        }

        void keepTried() {
            for (int i = 0; i < count; i++) {
                found[i] = tried[i];
            }
        }
    }

    private static final class Table {
        final long[] displacement = new long[MOST_ROWS];
        final long[] height = new long[MOST_ROWS];
        final long[] draft = new long[MOST_ROWS];
        int count = 0;

        int append(long newDisplacement, long newHeight, long newDraft) {
            displacement[count] = newDisplacement;
            height[count] = newHeight;
            draft[count] = newDraft;
            count++;
            return count;
        }

        long lastDisplacement() {
            return count == 0 ? 0L : displacement[count - 1];
        }

        /** Reads a column at a displacement d. */
        void read(long[] column, long d, Fraction answer) {
            int above = 0;
            while (above < count && displacement[above] < d) {
                above++;
            }
            if (count == 0) {
                answer.put(0L, 1L);
            } else if (above == 0) {
                answer.put(column[0], 1L);
            } else if (above == count) {
                answer.put(column[count - 1], 1L);
            } else {
                long gap = displacement[above] - displacement[above - 1];
                long part = d - displacement[above - 1];
                long rise = column[above] - column[above - 1];
                answer.put(column[above - 1] * gap + rise * part, gap);
            }
        }
    }

    /** Limits are numbered from 1; the rows' first elements stay unused. */
    private static final class Limits {
        final int[] what = new int[MOST_LIMITS + 1];
        final long[] low = new long[MOST_LIMITS + 1];
        final long[] high = new long[MOST_LIMITS + 1];
        int count = 0;

        int append(int newWhat, long newLow, long newHigh) {
            count++;
            what[count] = newWhat;
            low[count] = newLow;
            high[count] = newHigh;
            return count;
        }

        boolean allows(int number, long roundedDown, long roundedUp) {
            return roundedDown >= low[number] && roundedUp <= high[number];
        }
    }

    private static final class Steps {
        final boolean[] ofTank = new boolean[MOST_STEPS];
        final int[] number = new int[MOST_STEPS];
        final long[] kg = new long[MOST_STEPS];
        int count = 0;

        int append(boolean isOfTank, int itsNumber, long itsKg) {
            int i = count;
            ofTank[i] = isOfTank;
            number[i] = itsNumber;
            kg[i] = itsKg;
            count++;
            return i;
        }
    }

    private static final class Sums {
        long displacement = 0L;
        long x = 0L;
        long y = 0L;
        long z = 0L;
        long surfaces = 0L;

        void clear() {
            displacement = 0L;
            x = 0L;
            y = 0L;
            z = 0L;
            surfaces = 0L;
        }

        void add(long kg, long atX, long atY, long atZ) {
            displacement += kg;
            x += kg * atX;
            y += kg * atY;
            z += kg * atZ;
        }
    }

    /** What lies at a lesser x than each cut, and how it turns about the cut. */
    private static final class Cuts {
        final long[] place = new long[MOST_LIMITS + 1];
        final long[] kg = new long[MOST_LIMITS + 1];
        final long[] turn = new long[MOST_LIMITS + 1];
        int last = 0;

        void clear(int newLast) {
            last = Math.min(newLast, MOST_LIMITS);
            for (int i = 0; i <= last; i++) {
                kg[i] = 0L;
                turn[i] = 0L;
            }
        }

        void add(long moreKg, long x) {
            for (int i = 0; i <= last; i++) {
                if (x < place[i]) {
                    kg[i] += moreKg;
                    turn[i] += moreKg * (place[i] - x);
                }
            }
        }
    }

    private static final class Fraction {
        /** Euclid's division of two longs ends within a hundred rounds. */
        private static final int MOST_ROUNDS = 1000;

        long top = 0L;
        long bottom = 1L;

        void put(long newTop, long newBottom) {
            // No caller has a denominator of 0; the test keeps the machine from ever throwing.
            if (newBottom == 0L) {
                top = 0L;
                bottom = 1L;
                return;
            }
            top = newBottom < 0L ? -newTop : newTop;
            bottom = newBottom < 0L ? -newBottom : newBottom;
        }

        long floor() {
            return divideDown(top, bottom);
        }

        long ceiling() {
            return -divideDown(-top, bottom);
        }

        void reduce() {
            long common = commonDivisor(Math.abs(top), bottom);
            if (common > 1L) {
                top /= common;
                bottom /= common;
            }
        }

        private static long commonDivisor(long first, long second) {
            long a = first;
            long b = second;
            for (int round = 0; round < MOST_ROUNDS && b != 0L; round++) {
                long rest = a % b;
                a = b;
                b = rest;
            }
            return a;
        }
    }
}
