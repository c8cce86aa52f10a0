/** For each promise ordinary inputs, the edges that the document names, and wrong inputs. */
public final class PromiseTest {
    private static final Class<IllegalArgumentException> ARGUMENT = IllegalArgumentException.class;
    private static final Class<IllegalStateException> STATE = IllegalStateException.class;
    private static final Class<IndexOutOfBoundsException> INDEX = IndexOutOfBoundsException.class;
    private static final Class<ArithmeticException> ARITHMETIC = ArithmeticException.class;
    private static final long BOUND = 10000000000000L;
    private static final long[] NO_PLACES = {-10001, 10001, Long.MIN_VALUE, Long.MAX_VALUE, 4294967296L};

    private final Due due = new Due();

    private void value(StabilitySums s, String text, int what, long down, long top, long bottom) {
        due.answers(text + ": value(" + what + ", 0)", down, () -> s.value(what, 0));
        due.answers(text + ": value(" + what + ", 1)", top, () -> s.value(what, 1));
        due.answers(text + ": value(" + what + ", 2)", bottom, () -> s.value(what, 2));
    }

    private void newObject() {
        StabilitySums s = new StabilitySums();
        for (int what = 0; what <= 5; what++) {
            int w = what;
            due.answers("new: count(" + w + ")", 0, () -> s.count(w));
        }
        value(s, "new", 0, 0, 0, 1);
        value(s, "new", 6, 0, 0, 1);
        due.answers("new: check", 0, s::check);
        due.answers("new: ballast", 0, s::ballast);
        due.answers("new: broken", -1, s::broken);
        due.answers("new: shear", 0, () -> s.shear(5));
        due.answers("new: bending", 0, () -> s.bending(5));
        s.weight(100, 10000, 0, 0);
        value(s, "new hull", 7, 5000, 5000, 1);
        due.answers("new hull: shear(-1)", 0, () -> s.shear(-1));
        due.answers("new hull: shear(0)", 0, () -> s.shear(0));
        due.answers("new hull: shear(1)", -1, () -> s.shear(1));
        due.answers("new hull: shear(5000)", -50, () -> s.shear(5000));
        due.answers("new hull: shear(10000)", -100, () -> s.shear(10000));
        StabilitySums other = new StabilitySums();
        due.answers("a second object is new too", 0, () -> other.count(0));
    }

    private void weights() {
        StabilitySums s = new StabilitySums();
        for (long kg : new long[] {0, 100001, -100001, Long.MAX_VALUE, Long.MIN_VALUE, 4294967297L}) {
            due.throwing("weight of " + kg, ARGUMENT, () -> s.weight(kg, 0, 0, 0));
        }
        for (long no : NO_PLACES) {
            due.throwing("weight at x " + no, ARGUMENT, () -> s.weight(1, no, 0, 0));
            due.throwing("weight at y " + no, ARGUMENT, () -> s.weight(1, 0, no, 0));
            due.throwing("weight at z " + no, ARGUMENT, () -> s.weight(1, 0, 0, no));
        }
        due.answers("no weight came of these", 0, () -> s.count(0));
        due.answers("heaviest weight", 0, () -> s.weight(100000, 10000, 10000, 10000));
        due.answers("lightest weight", 1, () -> s.weight(-100000, -10000, -10000, -10000));
        due.throwing("they weigh nothing together", ARITHMETIC, () -> s.value(1, 0));
        for (int i = 2; i < 40; i++) {
            int number = i;
            due.answers("weight " + i, i, () -> s.weight(number, 1, -2, 3));
        }
        due.throwing("weight 40", STATE, () -> s.weight(1, 0, 0, 0));
        due.throwing("weight 40 of 0 kg", ARGUMENT, () -> s.weight(0, 0, 0, 0));
        due.throwing("weight 40 out of place", ARGUMENT, () -> s.weight(1, 0, 10001, 0));
        due.answers("40 weights", 40, () -> s.count(0));
        value(s, "40 weights", 0, 779, 779, 1);
        value(s, "40 weights", 1, 2567395, 2000000779L, 779);
    }

    private void tanks() {
        StabilitySums s = new StabilitySums();
        for (long most : new long[] {0, 1, 2, 3, 5, 6, 7, -4, 39999, 40001, 40004, Long.MIN_VALUE, Long.MAX_VALUE, 4294967300L}) {
            due.throwing("tank of " + most, ARGUMENT, () -> s.tank(most, 0, 0, 0, 0));
        }
        for (long surface : new long[] {-1, 1000000001L, Long.MIN_VALUE, Long.MAX_VALUE}) {
            due.throwing("tank with surface " + surface, ARGUMENT, () -> s.tank(4, surface, 0, 0, 0));
        }
        for (long no : NO_PLACES) {
            due.throwing("tank at x " + no, ARGUMENT, () -> s.tank(4, 0, no, 0, 0));
            due.throwing("tank at y " + no, ARGUMENT, () -> s.tank(4, 0, 0, no, 0));
            due.throwing("tank at z " + no, ARGUMENT, () -> s.tank(4, 0, 0, 0, no));
        }
        due.answers("no tank came of these", 0, () -> s.count(1));
        due.answers("tank 0", 0, () -> s.tank(4, 0, -10000, -10000, -10000));
        due.answers("tank 1", 1, () -> s.tank(40000, 1000000000L, 10000, 10000, 10000));
        due.answers("tank 2", 2, () -> s.tank(8, 1, 0, 0, 0));
        due.answers("tank 3", 3, () -> s.tank(12, 2, 0, 0, 0));
        due.throwing("tank 4", STATE, () -> s.tank(4, 0, 0, 0, 0));
        due.throwing("tank 4 of 5 kg", ARGUMENT, () -> s.tank(5, 0, 0, 0, 0));
        due.answers("4 tanks", 4, () -> s.count(1));
        value(s, "empty tanks", 0, 0, 0, 1);
        due.answers("tank 1 half", 1, () -> s.filled(1, 20000));
        value(s, "tank 1 half", 3, 10000, 10000, 1);
        value(s, "tank 1 half", 4, 60000, 60000, 1);
    }

    private void filled() {
        StabilitySums s = new StabilitySums();
        due.throwing("filled without tanks", INDEX, () -> s.filled(0, 0));
        s.tank(8, 100, 1, 2, 3);
        for (int no : new int[] {-1, 1, 4, Integer.MIN_VALUE, Integer.MAX_VALUE}) {
            due.throwing("filled(" + no + ", 1)", INDEX, () -> s.filled(no, 1));
            due.throwing("filled(" + no + ", -1)", INDEX, () -> s.filled(no, -1));
        }
        due.answers("filled to MOST", 1, () -> s.filled(0, 8));
        value(s, "full", 0, 8, 8, 1);
        value(s, "full", 4, 3, 3, 1);
        for (long kg : new long[] {-1, 9, Long.MIN_VALUE, Long.MAX_VALUE, 4294967296L}) {
            due.answers("filled with " + kg, 0, () -> s.filled(0, kg));
        }
        value(s, "still full", 0, 8, 8, 1);
        due.answers("one less", 1, () -> s.filled(0, 7));
        value(s, "one less", 0, 7, 7, 1);
        value(s, "one less", 4, 17, 121, 7);
        due.answers("one", 1, () -> s.filled(0, 1));
        value(s, "one", 4, 103, 103, 1);
        due.answers("empty", 1, () -> s.filled(0, 0));
        s.weight(2, 0, 0, 0);
        value(s, "empty", 4, 0, 0, 1);
    }

    private void hydro() {
        StabilitySums s = new StabilitySums();
        for (long d : new long[] {0, -1, 5000001, Long.MIN_VALUE, Long.MAX_VALUE}) {
            due.throwing("row at " + d, ARGUMENT, () -> s.hydro(d, 0, 0));
        }
        for (long no : NO_PLACES) {
            due.throwing("row with height " + no, ARGUMENT, () -> s.hydro(1, no, 0));
            due.throwing("row with draft " + no, ARGUMENT, () -> s.hydro(1, 0, no));
        }
        due.answers("row 1", 1, () -> s.hydro(10, -10000, 10000));
        due.throwing("a row not above the last", ARGUMENT, () -> s.hydro(10, 0, 0));
        due.throwing("a row below the last", ARGUMENT, () -> s.hydro(9, 0, 0));
        due.answers("row 2", 2, () -> s.hydro(13, 10000, -10000));
        for (int i = 3; i <= 12; i++) {
            int row = i;
            due.answers("row " + i, i, () -> s.hydro(row == 12 ? 5000000 : 20 + row, row, -row));
        }
        due.throwing("row 13 can't be", ARGUMENT, () -> s.hydro(5000000, 0, 0));
        due.answers("12 rows", 12, () -> s.count(2));
        StabilitySums full = new StabilitySums();
        for (int i = 1; i <= 12; i++) {
            full.hydro(i, i, i);
        }
        due.throwing("row 13", STATE, () -> full.hydro(13, 0, 0));
        due.throwing("row 13 at the last one", ARGUMENT, () -> full.hydro(12, 0, 0));
        due.answers("still 12 rows", 12, () -> full.count(2));
        readings(s);
    }

    private void readings(StabilitySums s) {
        value(s, "table without weights", 6, 10000, 10000, 1);
        s.tank(40000, 0, 0, 0, 0);
        long[][] rows = {{9, 10000, 10000, 1}, {10, 10000, 10000, 1}, {11, 3333, 10000, 3}, {12, -3334, -10000, 3},
            {13, -10000, -10000, 1}, {23, -3, -3, 1}, {31, -11, -11, 1}};
        for (long[] row : rows) {
            s.filled(0, row[0]);
            value(s, "table at " + row[0], 6, row[1], row[2], row[3]);
        }
        s.filled(0, 18);
        value(s, "table between 13 and 23", 6, -5002, -10003, 2);
        value(s, "height between 13 and 23", 5, 5001, 10003, 2);
        for (int i = 0; i < 40; i++) {
            s.weight(100000, 0, 0, 0);
        }
        s.filled(0, 0);
        // From -11 at 31 to -12 at 5000000.
        value(s, "table at 4000000", 6, -12, -11L * 4999969 - 3999969, 4999969);
        StabilitySums above = new StabilitySums();
        above.hydro(1, 7, 8);
        above.weight(2, 0, 0, 1);
        value(above, "above the last row", 6, 8, 8, 1);
        value(above, "above the last row", 5, 6, 6, 1);
        above.weight(-4, 0, 0, 0);
        value(above, "a displacement below 0", 6, 8, 8, 1);
    }

    private void hull() {
        StabilitySums s = new StabilitySums();
        s.weight(10, 5, 0, 0);
        for (long no : NO_PLACES) {
            due.answers("hull from " + no, 0, () -> s.hull(no, 10000) ? 1 : 0);
            due.answers("hull to " + no, 0, () -> s.hull(-10000, no) ? 1 : 0);
        }
        due.answers("hull of length 0", 0, () -> s.hull(3, 3) ? 1 : 0);
        due.answers("hull the other way", 0, () -> s.hull(4, 3) ? 1 : 0);
        value(s, "hull as it was", 7, -4995, -4995, 1);
        due.answers("the longest hull", 1, () -> s.hull(-10000, 10000) ? 1 : 0);
        value(s, "the longest hull", 7, 5, 5, 1);
        due.answers("the shortest hull", 1, () -> s.hull(4, 5) ? 1 : 0);
        value(s, "the shortest hull", 7, 0, 1, 2);
        due.answers("a hull behind all", 1, () -> s.hull(9999, 10000) ? 1 : 0);
        value(s, "a hull behind all", 7, -9995, -19989, 2);
    }

    private void values() {
        StabilitySums s = new StabilitySums();
        for (int what = 1; what <= 7; what++) {
            int w = what;
            if (w != 6) {
                for (int side = 0; side <= 2; side++) {
                    int i = side;
                    due.throwing("value(" + w + ", " + i + ") without D", ARITHMETIC, () -> s.value(w, i));
                }
            }
            due.throwing("value(" + w + ", 3) without D", ARGUMENT, () -> s.value(w, 3));
            due.throwing("value(" + w + ", -1) without D", ARGUMENT, () -> s.value(w, -1));
        }
        for (int no : new int[] {-1, 8, 9, Integer.MIN_VALUE, Integer.MAX_VALUE}) {
            due.throwing("value(" + no + ", 0)", ARGUMENT, () -> s.value(no, 0));
            due.throwing("value(0, " + (no == 8 ? 3 : no) + ")", ARGUMENT, () -> s.value(0, no == 8 ? 3 : no));
        }
        s.weight(6, 4, -3, 1);
        value(s, "without rows", 5, -1, -1, 1);
        value(s, "without rows", 6, 0, 0, 1);
        s.tank(8, 10, 1, 1, 1);
        s.filled(0, 2);
        s.hydro(4, 5, 1);
        s.hydro(12, 8, 3);
        s.hull(0, 5);
        value(s, "values", 0, 8, 8, 1);
        value(s, "values", 1, 3, 13, 4);
        value(s, "values", 2, -2, -2, 1);
        value(s, "values", 3, 1, 1, 1);
        value(s, "values", 4, 2, 9, 4);
        value(s, "values", 5, 4, 17, 4);
        value(s, "values", 6, 2, 2, 1);
        value(s, "values", 7, 0, 3, 4);
        s.weight(-11, 0, 0, 0);
        value(s, "D below 0", 0, -3, -3, 1);
        value(s, "D below 0", 1, -9, -26, 3);
        value(s, "D below 0", 2, 5, 16, 3);
        value(s, "D below 0", 3, -3, -8, 3);
        value(s, "D below 0", 4, -6, -6, 1);
        value(s, "D below 0", 5, 11, 11, 1);
        value(s, "D below 0", 6, 1, 1, 1);
        value(s, "D below 0", 7, -12, -67, 6);
        largeValues();
    }

    private void largeValues() {
        StabilitySums s = new StabilitySums();
        for (int i = 0; i < 40; i++) {
            s.weight(100000 - (i == 0 ? 1 : 0), 10000, -10000, -10000);
        }
        s.hydro(1, -10000, -10000);
        s.hydro(5000000, 10000, 9999);
        value(s, "large", 1, 10000, 10000, 1);
        value(s, "large", 2, -10000, -10000, 1);
        // At 3999999 the height is 3999998 / 4999999 of the way from -10000 to 10000; Z / D is -10000.
        value(s, "large", 5, 15999, 20000L * 3999998, 4999999);
    }

    private void shear() {
        StabilitySums s = new StabilitySums();
        for (long no : NO_PLACES) {
            due.throwing("shear(" + no + ")", ARGUMENT, () -> s.shear(no));
        }
        s.hull(-10, 10);
        s.weight(7, 0, 0, 0);
        s.tank(8, 0, -20, 0, 0);
        s.filled(0, 4);
        long[][] rows = {{-10000, 0}, {-20, 0}, {-19, 4}, {-10, 4}, {-9, 3}, {0, -2}, {1, 4}, {9, 0}, {10, 0}, {11, 0}, {10000, 0}};
        for (long[] row : rows) {
            due.answers("shear(" + row[0] + ")", row[1], () -> s.shear(row[0]));
        }
        s.weight(-22, 20, 0, 0);
        long[][] behind = {{-10, 4}, {-9, 4}, {0, 9}, {1, 17}, {10, 22}, {20, 22}, {21, 0}};
        for (long[] row : behind) {
            due.answers("shear(" + row[0] + ") with D below 0", row[1], () -> s.shear(row[0]));
        }
    }

    private void bending() {
        StabilitySums s = new StabilitySums();
        for (long no : NO_PLACES) {
            due.throwing("bending(" + no + ")", ARGUMENT, () -> s.bending(no));
        }
        s.hull(-10, 11);
        s.weight(21, 0, 0, 0);
        s.tank(84, 0, -20, 0, 0);
        s.filled(0, 42);
        // D is 63, 3 for each length: 42 * (x + 20) + 21 * x, less 3 * t * t / 2.
        long[][] rows = {{-10000, 0}, {-20, 0}, {-19, 42}, {-10, 420}, {-9, 460}, {-8, 498}, {0, 690}, {1, 721},
            {11, 871}, {12, 871}, {13, 871}, {10000, 871}};
        for (long[] row : rows) {
            due.answers("bending(" + row[0] + ")", row[1], () -> s.bending(row[0]));
        }
        s.weight(-64, 10000, 0, 0);
        due.answers("bending(12) with D of -1", 42 * 32 + 21 * 12 + 11, () -> s.bending(12));
        due.answers("bending(-9) with D of -1", 42 * 11, () -> s.bending(-9));
    }

    private void limits() {
        StabilitySums s = new StabilitySums();
        for (int no : new int[] {-1, 10, Integer.MIN_VALUE, Integer.MAX_VALUE}) {
            due.throwing("limit of " + no, ARGUMENT, () -> s.limit(no, 0, 0, 0));
        }
        for (long no : NO_PLACES) {
            due.throwing("limit at " + no, ARGUMENT, () -> s.limit(8, no, 0, 0));
            due.throwing("limit of a value at " + no, ARGUMENT, () -> s.limit(0, no, 0, 0));
        }
        due.throwing("LOW above HIGH", ARGUMENT, () -> s.limit(0, 0, 1, 0));
        due.throwing("LOW too low", ARGUMENT, () -> s.limit(0, 0, -BOUND - 1, 0));
        due.throwing("HIGH too high", ARGUMENT, () -> s.limit(0, 0, 0, BOUND + 1));
        due.throwing("both too low", ARGUMENT, () -> s.limit(0, 0, Long.MIN_VALUE, Long.MIN_VALUE));
        due.throwing("both too high", ARGUMENT, () -> s.limit(0, 0, Long.MAX_VALUE, Long.MAX_VALUE));
        due.answers("no limit came of these", 0, () -> s.count(3));
        due.answers("limit 1", 1, () -> s.limit(0, 10000, -BOUND, BOUND));
        due.answers("limit 2", 2, () -> s.limit(9, -10000, -BOUND, -BOUND));
        for (int i = 3; i <= 10; i++) {
            due.answers("limit " + i, i, () -> s.limit(8, 0, BOUND, BOUND));
        }
        due.throwing("limit 11", STATE, () -> s.limit(0, 0, 0, 0));
        due.throwing("limit 11 can't be", ARGUMENT, () -> s.limit(0, 0, 1, 0));
        due.answers("10 limits", 10, () -> s.count(3));
        due.answers("the least of many that are broken", 2, s::check);
    }

    private void check() {
        for (int what = 0; what <= 9; what++) {
            StabilitySums s = new StabilitySums();
            s.limit(what, 0, -BOUND, BOUND);
            due.answers("widest limit of " + what + " without D", what == 0 || what == 6 || what > 7 ? 0 : 1, s::check);
            s.weight(3, 1, 1, 1);
            due.answers("widest limit of " + what, 0, s::check);
        }
        // X / D is 10 / 3 of the first, -10 / 3 of the second.
        long[][] thirds = {{10, 3, 4, 0}, {10, 3, 3, 1}, {10, 4, 4, 1}, {-10, -4, -3, 0}, {-10, -3, -3, 1}, {-10, -4, -4, 1}};
        for (long[] row : thirds) {
            StabilitySums s = new StabilitySums();
            s.weight(1, row[0], 0, 0);
            s.weight(2, 0, 0, 0);
            s.limit(1, 0, row[1], row[2]);
            due.answers("limit " + row[1] + " .. " + row[2] + " of " + row[0] + " / 3", row[3], s::check);
        }
        StabilitySums s = new StabilitySums();
        s.hull(0, 2);
        s.weight(3, 0, 0, 0);
        s.limit(8, 1, 1, 1);
        due.answers("shear of 3 less 3 / 2, rounded down", 0, s::check);
        s.limit(8, 1, 2, 2);
        due.answers("shear is not 2", 2, s::check);
        StabilitySums t = new StabilitySums();
        t.hull(0, 2);
        t.weight(3, 0, 0, 0);
        t.limit(9, 1, 2, 2);
        due.answers("bending of 3 less 3 / 4, rounded down", 0, t::check);
        t.limit(9, 2, 4, 10);
        due.answers("bending at 2 is 3", 2, t::check);
        t.limit(0, 0, 0, 0);
        due.answers("the least is 2 still", 2, t::check);
    }

    private void pumping() {
        StabilitySums s = new StabilitySums();
        due.throwing("fill without tanks", INDEX, () -> s.fill(0));
        s.tank(8, 0, 0, 1, 0);
        s.filled(0, 3);
        due.answers("no limits, to the nearest quarter", 1, s::ballast);
        due.answers("the emptier of 2 and 4", 2, () -> s.fill(0));
        value(s, "nothing is pumped", 0, 3, 3, 1);
        for (int no : new int[] {-1, 1, Integer.MIN_VALUE, Integer.MAX_VALUE}) {
            due.throwing("fill(" + no + ")", INDEX, () -> s.fill(no));
        }
        s.limit(0, 0, 7, 100);
        due.answers("four quarters", 5, s::ballast);
        due.answers("four quarters of 8", 8, () -> s.fill(0));
        StabilitySums tooSmall = new StabilitySums();
        tooSmall.tank(8, 0, 0, 0, 0);
        tooSmall.limit(0, 0, 9, 100);
        due.answers("there is no fifth quarter", -1, tooSmall::ballast);
        s.limit(0, 0, 0, 7);
        due.answers("no pumping keeps both", -1, s::ballast);
        due.answers("NONE", -1, () -> s.fill(0));
        due.throwing("no such tank, without a pumping", INDEX, () -> s.fill(1));
        pumpingOrder();
        pumpingSurfaces();
    }

    private void pumpingOrder() {
        StabilitySums s = new StabilitySums();
        for (int i = 0; i < 4; i++) {
            s.tank(4, 0, 0, 0, 0);
        }
        s.limit(0, 0, 3, 3);
        due.answers("3 kg anywhere", 3, s::ballast);
        for (int i = 0; i < 4; i++) {
            int tank = i;
            due.answers("tank " + i + " of the first way", tank == 3 ? 3 : 0, () -> s.fill(tank));
        }
        s.filled(0, 4);
        due.answers("3 kg, one out of tank 0", 1, s::ballast);
        due.answers("tank 0 gives", 3, () -> s.fill(0));
        s.filled(1, 1);
        due.answers("two to give", 2, s::ballast);
        due.answers("tank 0 gives both", 2, () -> s.fill(0));
        due.answers("tank 1 keeps its own", 1, () -> s.fill(1));
        due.answers("tank 3 stays empty", 0, () -> s.fill(3));
    }

    private void pumpingSurfaces() {
        StabilitySums s = new StabilitySums();
        s.weight(100, 0, 0, 0);
        s.tank(40, 1000, 0, 0, 0);
        s.filled(0, 39);
        s.limit(4, 0, 0, 0);
        due.answers("a full tank has no free surface", 1, s::ballast);
        due.answers("full", 40, () -> s.fill(0));
        s.filled(0, 1);
        due.answers("an empty tank has none either", 1, s::ballast);
        due.answers("empty", 0, () -> s.fill(0));
    }

    private void plans() {
        StabilitySums s = new StabilitySums();
        due.throwing("a step for no tank", INDEX, () -> s.plan(true, 0, 0));
        due.throwing("a step for no weight", INDEX, () -> s.plan(false, 0, 0));
        s.weight(5, 0, 0, 0);
        due.throwing("a weight is no tank", INDEX, () -> s.plan(true, 0, 0));
        s.tank(8, 0, 0, 0, 0);
        s.tank(16, 0, 0, 0, 0);
        for (int no : new int[] {-1, 2, Integer.MIN_VALUE, Integer.MAX_VALUE}) {
            due.throwing("a step for tank " + no, INDEX, () -> s.plan(true, no, -1));
        }
        for (int no : new int[] {-1, 1, Integer.MIN_VALUE, Integer.MAX_VALUE}) {
            due.throwing("a step for weight " + no, INDEX, () -> s.plan(false, no, 100001));
        }
        for (long kg : new long[] {-1, 9, 17, 100001, Long.MIN_VALUE, Long.MAX_VALUE}) {
            due.throwing("tank 0 with " + kg, ARGUMENT, () -> s.plan(true, 0, kg));
        }
        for (long kg : new long[] {-100001, 100001, Long.MIN_VALUE, Long.MAX_VALUE}) {
            due.throwing("weight 0 by " + kg, ARGUMENT, () -> s.plan(false, 0, kg));
        }
        due.answers("no step came of these", 0, () -> s.count(4));
        due.answers("step 0", 0, () -> s.plan(true, 0, 8));
        due.answers("step 1", 1, () -> s.plan(true, 1, 16));
        due.answers("step 2", 2, () -> s.plan(true, 0, 0));
        due.answers("step 3", 3, () -> s.plan(false, 0, 100000));
        due.answers("step 4", 4, () -> s.plan(false, 0, -100000));
        due.answers("step 5", 5, () -> s.plan(false, 0, 0));
        for (int i = 6; i < 20; i++) {
            due.answers("step " + i, i, () -> s.plan(true, 1, 3));
        }
        due.throwing("step 20", STATE, () -> s.plan(true, 0, 0));
        due.throwing("step 20 can't be", ARGUMENT, () -> s.plan(true, 0, 9));
        due.throwing("step 20 of no tank", INDEX, () -> s.plan(true, 2, 9));
        due.answers("20 steps", 20, () -> s.count(4));
        value(s, "told only", 0, 5, 5, 1);
    }

    private void steps() {
        StabilitySums s = new StabilitySums();
        due.throwing("step(0) without steps", INDEX, () -> s.step(0));
        due.answers("broken without steps", -1, s::broken);
        s.limit(0, 0, 0, 10);
        s.limit(0, 0, 5, 100);
        due.answers("a limit is broken ahead of all steps", 2, s::check);
        due.answers("but behind none", -1, s::broken);
        s.weight(1, 0, 0, 0);
        s.tank(8, 0, 0, 0, 0);
        s.filled(0, 2);
        s.plan(false, 0, 4);
        s.plan(true, 0, 5);
        s.plan(true, 0, 6);
        s.plan(false, 0, -4);
        s.plan(false, 0, -4);
        s.plan(true, 0, 8);
        int[] want = {0, 0, 1, 0, 2, 0};
        for (int i = 0; i < want.length; i++) {
            int step = i;
            due.answers("step(" + i + ")", want[i], () -> s.step(step));
        }
        due.answers("asked again, the other way", 0, () -> s.step(0));
        for (int no : new int[] {-1, 6, Integer.MIN_VALUE, Integer.MAX_VALUE}) {
            due.throwing("step(" + no + ")", INDEX, () -> s.step(no));
        }
        due.answers("broken", 2, s::broken);
        value(s, "looking changes nothing", 0, 3, 3, 1);
        s.filled(0, 8);
        due.answers("from what is there", 1, () -> s.step(0));
        due.answers("broken from what is there", 0, s::broken);
        due.answers("behind step 3 nothing of that is left", 0, () -> s.step(3));
    }

    private void stepsWithSurfaces() {
        StabilitySums s = new StabilitySums();
        s.weight(10, 0, 0, 0);
        s.tank(8, 100, 0, 0, 0);
        s.limit(4, 0, 0, 0);
        s.plan(true, 0, 8);
        s.plan(true, 0, 7);
        s.plan(true, 0, 0);
        s.plan(false, 0, -10);
        due.answers("full", 0, () -> s.step(0));
        due.answers("slack", 1, () -> s.step(1));
        due.answers("empty", 0, () -> s.step(2));
        due.answers("D is 0", 1, () -> s.step(3));
        due.answers("first broken", 1, s::broken);
        StabilitySums heavy = new StabilitySums();
        heavy.weight(100000, 0, 0, 0);
        heavy.plan(false, 0, 100000);
        heavy.plan(false, 0, 100000);
        heavy.limit(0, 0, 0, 299999);
        due.answers("a step may go beyond what a new weight has", 1, heavy::broken);
        due.answers("200000 are within", 0, () -> heavy.step(0));
    }

    private void stepsOfSeveral() {
        StabilitySums s = new StabilitySums();
        s.weight(10, 0, -1, 0);
        s.weight(10, 0, 1, 0);
        s.tank(8, 0, 0, -1, 0);
        s.tank(8, 0, 0, 1, 0);
        s.limit(2, 0, 0, 100);
        s.limit(2, 0, -100, 0);
        s.plan(false, 1, 1);
        s.plan(true, 0, 2);
        s.plan(true, 1, 1);
        s.plan(false, 0, 1);
        int[] want = {2, 1, 0, 1};
        for (int i = 0; i < want.length; i++) {
            int step = i;
            due.answers("several: step(" + i + ")", want[i], () -> s.step(step));
        }
    }

    private void counts() {
        StabilitySums s = new StabilitySums();
        for (int no : new int[] {-1, 6, 7, Integer.MIN_VALUE, Integer.MAX_VALUE}) {
            due.answers("count(" + no + ")", -1, () -> s.count(no));
        }
        s.weight(1, 0, 0, 0);
        s.tank(4, 0, 0, 0, 0);
        s.tank(4, 0, 0, 0, 0);
        s.hydro(1, 0, 0);
        s.hydro(2, 0, 0);
        s.hydro(3, 0, 0);
        for (int i = 0; i < 4; i++) {
            s.limit(0, 0, 0, 0);
        }
        for (int i = 0; i < 5; i++) {
            s.plan(true, 1, 2);
        }
        for (int i = 0; i <= 4; i++) {
            int what = i;
            due.answers("count(" + i + ")", i + 1, () -> s.count(what));
        }
        due.answers("none slack", 0, () -> s.count(5));
        s.filled(0, 1);
        due.answers("one slack", 1, () -> s.count(5));
        s.filled(1, 3);
        due.answers("two slack", 2, () -> s.count(5));
        s.filled(0, 4);
        due.answers("one full", 1, () -> s.count(5));
        s.filled(1, 0);
        due.answers("one empty", 0, () -> s.count(5));
        s.step(0);
        due.answers("steps fill nothing", 0, () -> s.count(5));
    }

    public static void main(String[] args) {
        PromiseTest test = new PromiseTest();
        test.newObject();
        test.weights();
        test.tanks();
        test.filled();
        test.hydro();
        test.hull();
        test.values();
        test.shear();
        test.bending();
        test.limits();
        test.check();
        test.pumping();
        test.plans();
        test.steps();
        test.stepsWithSurfaces();
        test.stepsOfSeveral();
        test.counts();
        test.due.end();
    }
}
