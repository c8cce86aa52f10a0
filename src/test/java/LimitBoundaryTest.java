/** The boundary cases of promises 10 to 13: limits, and the pumping that keeps them. */
public final class LimitBoundaryTest extends Boundary {
    private static final long BOUND = 10000000000000L;
    private static final int[] NO_INDEX = {-1, Integer.MIN_VALUE, Integer.MAX_VALUE};

    public static void main(String[] args) throws IllegalAccessException {
        new LimitBoundaryTest().runAll();
    }

    private static StabilitySums withLimits(int count) {
        StabilitySums s = new StabilitySums();
        for (int i = 0; i < count; i++) {
            s.limit(0, 0, 0, 5);
        }
        return s;
    }

    private static StabilitySums withTanks(long... mosts) {
        StabilitySums s = new StabilitySums();
        for (long most : mosts) {
            s.tank(most, 0, 0, 0, 0);
        }
        return s;
    }

    /** X / D is x / 3. */
    private static StabilitySums thirds(long x) {
        StabilitySums s = new StabilitySums();
        s.weight(2, 0, 0, 0);
        s.weight(1, x, 0, 0);
        return s;
    }

    private void fills(StabilitySums s, String text, long work, long... fillings) {
        due.answers(text + ": ballast", work, s::ballast);
        for (int i = 0; i < fillings.length; i++) {
            int tank = i;
            due.answers(text + ": fill(" + i + ")", fillings[i], () -> s.fill(tank));
        }
    }

    // Promise 10: limit

    @Sentence(promise = 10, text = "LIMITS 1, 2, .. (10 at most)")
    private void limitsAreNumberedFrom1() {
        StabilitySums s = new StabilitySums();
        for (int i = 1; i <= 10; i++) {
            due.answers("limit " + i, i, () -> s.limit(0, 0, 0, 0));
        }
    }

    @Sentence(promise = 10, text = "IllegalStateException if there are 10")
    private void limit11IsTooMany() {
        StabilitySums s = withLimits(9);
        due.answers("the last one", 10, () -> s.limit(0, 0, 0, 0));
        unchanged(s, () -> {
            due.throwing("one more", STATE, () -> s.limit(0, 0, 0, 0));
            due.throwing("one more that is broken", STATE, () -> s.limit(9, 10000, BOUND, BOUND));
        });
        due.answers("limits", 10, () -> s.count(3));
    }

    @Sentence(promise = 10, text = "IllegalArgumentException if there is no such value (0 .. 9)")
    private void limitOfNoValue() {
        StabilitySums s = mixedShip();
        unchanged(s, () -> {
            due.throwing("limit of 10", ARGUMENT, () -> s.limit(10, 0, 0, 0));
            for (int no : NO_INDEX) {
                due.throwing("limit of " + no, ARGUMENT, () -> s.limit(no, 0, 0, 0));
            }
        });
    }

    @Sentence(promise = 10, text = "IllegalArgumentException if there is no such value (0 .. 9)")
    private void limitOfEveryValue() {
        StabilitySums s = new StabilitySums();
        for (int what = 0; what <= 9; what++) {
            int w = what;
            due.answers("limit of " + what, what + 1, () -> s.limit(w, 0, 0, 0));
        }
    }

    @Sentence(promise = 10, text = "LOW is above HIGH")
    private void lowAboveHigh() {
        StabilitySums s = mixedShip();
        long[][] pairs = {{1, 0}, {0, -1}, {BOUND, -BOUND}, {BOUND, BOUND - 1}, {1 - BOUND, -BOUND}, {Long.MAX_VALUE, Long.MIN_VALUE}};
        unchanged(s, () -> {
            for (long[] pair : pairs) {
                due.throwing(pair[0] + " .. " + pair[1], ARGUMENT, () -> s.limit(0, 0, pair[0], pair[1]));
            }
        });
        due.answers("LOW and HIGH the same", 4, () -> s.limit(0, 0, 7, 7));
        due.answers("LOW just below HIGH", 5, () -> s.limit(0, 0, -1, 0));
    }

    @Sentence(promise = 10, text = "one of both is not -10000000000000 ..")
    private void boundsTooSmall() {
        StabilitySums s = mixedShip();
        long[][] pairs = {{-BOUND - 1, 0}, {-BOUND - 1, -BOUND - 1}, {-BOUND - 1, -BOUND}, {Long.MIN_VALUE, 0}, {Long.MIN_VALUE, Long.MIN_VALUE}};
        unchanged(s, () -> {
            for (long[] pair : pairs) {
                due.throwing(pair[0] + " .. " + pair[1], ARGUMENT, () -> s.limit(0, 0, pair[0], pair[1]));
            }
        });
        due.answers("LOW at the end", 4, () -> s.limit(0, 0, -BOUND, 0));
        due.answers("both at the end", 5, () -> s.limit(0, 0, -BOUND, -BOUND));
    }

    @Sentence(promise = 10, text = ".. 10000000000000")
    private void boundsTooLarge() {
        StabilitySums s = mixedShip();
        long[][] pairs = {{0, BOUND + 1}, {BOUND + 1, BOUND + 1}, {BOUND, BOUND + 1}, {0, Long.MAX_VALUE},
            {Long.MAX_VALUE, Long.MAX_VALUE}, {Long.MIN_VALUE, Long.MAX_VALUE}};
        unchanged(s, () -> {
            for (long[] pair : pairs) {
                due.throwing(pair[0] + " .. " + pair[1], ARGUMENT, () -> s.limit(0, 0, pair[0], pair[1]));
            }
        });
        due.answers("HIGH at the end", 4, () -> s.limit(0, 0, 0, BOUND));
        due.answers("both at the end", 5, () -> s.limit(0, 0, BOUND, BOUND));
        due.answers("from end to end", 6, () -> s.limit(0, 0, -BOUND, BOUND));
    }

    @Sentence(promise = 10, text = "or the cut is no place")
    private void cutOutside() {
        StabilitySums s = mixedShip();
        unchanged(s, () -> {
            for (int what = 0; what <= 9; what++) {
                int w = what;
                for (long no : NO_PLACES) {
                    due.throwing("limit of " + w + " at " + no, ARGUMENT, () -> s.limit(w, no, 0, 0));
                }
            }
        });
    }

    @Sentence(promise = 10, text = "or the cut is no place")
    private void cutAtTheEnds() {
        StabilitySums s = new StabilitySums();
        s.weight(10, -10000, 0, 0);
        s.weight(1, 10000, 0, 0);
        due.answers("shear at -10000", 1, () -> s.limit(8, -10000, 0, 0));
        due.answers("shear at 10000", 2, () -> s.limit(8, 10000, -1, -1));
        due.answers("bending at 10000", 3, () -> s.limit(9, 10000, 145000, 145000));
        due.answers("all kept", 0, s::check);
    }

    @Sentence(promise = 10, text = "Of several exceptions the one told first is thrown")
    private void limitToldFirst() {
        StabilitySums s = withLimits(10);
        unchanged(s, () -> {
            due.throwing("value 10", ARGUMENT, () -> s.limit(10, 0, 0, 0));
            due.throwing("LOW above HIGH", ARGUMENT, () -> s.limit(0, 0, 1, 0));
            due.throwing("LOW too small", ARGUMENT, () -> s.limit(0, 0, -BOUND - 1, 0));
            due.throwing("HIGH too large", ARGUMENT, () -> s.limit(0, 0, 0, BOUND + 1));
            due.throwing("cut", ARGUMENT, () -> s.limit(0, 10001, 0, 0));
        });
    }

    // Promise 11: check

    @Sentence(promise = 11, text = "0 without")
    private void noLimitIsBroken() {
        StabilitySums s = new StabilitySums();
        due.answers("no limits, no D", 0, s::check);
        s.weight(3, 1, 1, 1);
        due.answers("no limits", 0, s::check);
        s.limit(0, 0, 3, 3);
        due.answers("a limit that is kept", 0, s::check);
    }

    @Sentence(promise = 11, text = "is at least LOW")
    private void atLeastLow() {
        StabilitySums s = new StabilitySums();
        s.tank(8, 0, 0, 0, 0);
        s.limit(0, 0, 5, 100);
        long[][] rows = {{4, 1}, {5, 0}, {6, 0}};
        for (long[] row : rows) {
            s.filled(0, row[0]);
            due.answers("D of " + row[0], row[1], s::check);
        }
    }

    @Sentence(promise = 11, text = "and at most HIGH")
    private void atMostHigh() {
        StabilitySums s = new StabilitySums();
        s.tank(8, 0, 0, 0, 0);
        s.limit(0, 0, -100, 5);
        long[][] rows = {{4, 0}, {5, 0}, {6, 1}};
        for (long[] row : rows) {
            s.filled(0, row[0]);
            due.answers("D of " + row[0], row[1], s::check);
        }
    }

    @Sentence(promise = 11, text = "compared exactly")
    private void aFractionAboveHigh() {
        long[][] rows = {{9, 3, 0}, {10, 3, 1}, {10, 4, 0}, {-10, -4, 1}, {-10, -3, 0}, {-9, -3, 0}, {1, 0, 1}, {-1, 0, 0}};
        for (long[] row : rows) {
            StabilitySums s = thirds(row[0]);
            s.limit(1, 0, -100, row[1]);
            due.answers(row[0] + " / 3 at most " + row[1], row[2], s::check);
        }
    }

    @Sentence(promise = 11, text = "compared exactly")
    private void aFractionBelowLow() {
        long[][] rows = {{9, 3, 0}, {10, 3, 0}, {10, 4, 1}, {-10, -4, 0}, {-10, -3, 1}, {-9, -3, 0}, {1, 0, 0}, {-1, 0, 1}};
        for (long[] row : rows) {
            StabilitySums s = thirds(row[0]);
            s.limit(1, 0, row[1], 100);
            due.answers(row[0] + " / 3 at least " + row[1], row[2], s::check);
        }
    }

    @Sentence(promise = 11, text = "compared exactly")
    private void fractionsOfADisplacementBelow0() {
        StabilitySums s = new StabilitySums();
        s.weight(-4, 0, 0, 0);
        s.weight(1, 1, 0, 0);
        s.limit(1, 0, -1, 0);
        due.answers("1 / -3 between -1 and 0", 0, s::check);
        s.limit(1, 0, 0, 0);
        due.answers("1 / -3 is not 0", 2, s::check);
    }

    @Sentence(promise = 11, text = "a value 0 .. 7")
    private void aLimitOfEachValue() {
        for (int what = 0; what <= 7; what++) {
            int w = what;
            StabilitySums same = shipWithoutLimits();
            long down = same.value(w, 0);
            long up = same.value(w, 2) == 1 ? down : down + 1;
            long[][] rows = {{down, up, 0}, {down + 1, BOUND, 1}, {-BOUND, up - 1, 1}, {-BOUND, BOUND, 0}};
            for (long[] row : rows) {
                StabilitySums s = shipWithoutLimits();
                s.limit(w, 0, row[0], row[1]);
                due.answers("value " + w + " in " + row[0] + " .. " + row[1], row[2], s::check);
            }
        }
    }

    @Sentence(promise = 11, text = "or SHEAR (8) .. at a cut is")
    private void shearAtACut() {
        for (long cut : new long[] {-10, -9, -3, -2, 2, 3, 10, 11, 12}) {
            long at = shipWithoutLimits().shear(cut);
            long[][] rows = {{at, at, 0}, {at + 1, BOUND, 1}, {-BOUND, at - 1, 1}, {-BOUND, at, 0}, {at, BOUND, 0}};
            for (long[] row : rows) {
                StabilitySums s = shipWithoutLimits();
                s.limit(8, cut, row[0], row[1]);
                due.answers("shear(" + cut + ") of " + at + " in " + row[0] + " .. " + row[1], row[2], s::check);
            }
        }
    }

    @Sentence(promise = 11, text = "or BENDING (9) at a cut is")
    private void bendingAtACut() {
        for (long cut : new long[] {-10, -9, -3, -2, 2, 3, 10, 11, 12}) {
            long at = shipWithoutLimits().bending(cut);
            long[][] rows = {{at, at, 0}, {at + 1, BOUND, 1}, {-BOUND, at - 1, 1}, {-BOUND, at, 0}, {at, BOUND, 0}};
            for (long[] row : rows) {
                StabilitySums s = shipWithoutLimits();
                s.limit(9, cut, row[0], row[1]);
                due.answers("bending(" + cut + ") of " + at + " in " + row[0] + " .. " + row[1], row[2], s::check);
            }
        }
    }

    @Sentence(promise = 11, text = "at a cut")
    private void eachLimitHasItsCut() {
        StabilitySums s = new StabilitySums();
        s.hull(0, 10);
        s.weight(10, 9, 0, 0);
        s.limit(8, 3, -3, -3);
        s.limit(8, 4, -4, -4);
        s.limit(8, 5, -5, -5);
        due.answers("all kept", 0, s::check);
        due.answers("another cut is asked for", -7, () -> s.shear(7));
        due.answers("all kept still", 0, s::check);
    }

    @Sentence(promise = 11, text = "all those of values 1 to 5 and 7 are if D is 0")
    private void limitsWithoutD() {
        int[] wants = {0, 1, 1, 1, 1, 1, 0, 1, 0, 0};
        for (int what = 0; what <= 9; what++) {
            StabilitySums s = new StabilitySums();
            s.limit(what, 5000, -BOUND, BOUND);
            due.answers("the widest limit of " + what + " on a new ship", wants[what], s::check);
            s.weight(5, 10, 20, 30);
            due.answers("the widest limit of " + what + " with D of 5", 0, s::check);
            s.weight(-5, 1, 2, 3);
            due.answers("the widest limit of " + what + " on weights that cancel", wants[what], s::check);
        }
    }

    @Sentence(promise = 11, text = "all those of values 1 to 5 and 7 are if D is 0")
    private void otherLimitsWithoutD() {
        StabilitySums s = new StabilitySums();
        s.hydro(1, 0, 7);
        s.limit(0, 0, 0, 0);
        s.limit(6, 0, 7, 7);
        s.limit(8, 1, 0, 0);
        s.limit(9, 1, 0, 0);
        due.answers("all kept", 0, s::check);
        s.limit(6, 0, 0, 6);
        due.answers("the draft is 7", 5, s::check);
    }

    @Sentence(promise = 11, text = "The least limit that is broken")
    private void leastOfSeveral() {
        StabilitySums s = new StabilitySums();
        s.tank(40, 0, 0, 0, 0);
        for (int i = 1; i <= 10; i++) {
            s.limit(0, 0, 0, 20 - i);
        }
        long[][] rows = {{10, 0}, {11, 10}, {12, 9}, {19, 2}, {20, 1}, {40, 1}};
        for (long[] row : rows) {
            s.filled(0, row[0]);
            due.answers("D of " + row[0], row[1], s::check);
        }
    }

    @Sentence(promise = 11, text = "The least limit that is broken")
    private void whatIsToldBehindALimit() {
        StabilitySums s = new StabilitySums();
        s.limit(6, 0, 0, 5);
        s.limit(7, 0, -1, 1);
        s.weight(1, 5000, 0, 0);
        due.answers("the hull's middle", 0, s::check);
        s.hull(0, 9000);
        due.answers("another hull", 2, s::check);
        s.hydro(1, 0, 6);
        due.answers("a row", 1, s::check);
    }

    // Promise 12: ballast

    @Sentence(promise = 12, text = "The least work of PUMPING")
    private void ballastWithoutTanks() {
        StabilitySums s = new StabilitySums();
        due.answers("no limits", 0, s::ballast);
        s.limit(0, 0, 0, 0);
        due.answers("a limit that is kept", 0, s::ballast);
        s.weight(1, 0, 0, 0);
        due.answers("a limit that is broken", -1, s::ballast);
    }

    @Sentence(promise = 12, text = "each tank is set to a quarter of MOST, two, three or four quarters, or empty")
    private void everyQuarter() {
        for (long most : new long[] {4, 8, 40000}) {
            for (int quarters = 0; quarters <= 4; quarters++) {
                StabilitySums s = withTanks(most);
                long kg = most / 4 * quarters;
                s.limit(0, 0, kg, kg);
                fills(s, quarters + " quarters of " + most, kg, kg);
            }
        }
    }

    @Sentence(promise = 12, text = "each tank is set to a quarter of MOST, two, three or four quarters, or empty")
    private void nothingBetweenTheQuarters() {
        for (long kg : new long[] {-1, 1, 2, 3, 5, 7, 9, 15, 17, 20}) {
            StabilitySums s = withTanks(16);
            s.limit(0, 0, kg, kg);
            fills(s, kg + " kg of 16", -1, -1);
        }
    }

    @Sentence(promise = 12, text = "each tank is set to a quarter of MOST, two, three or four quarters, or empty")
    private void alsoWhenNoLimitIsBroken() {
        long[][] rows = {{0, 0, 0}, {1, 1, 0}, {2, 2, 0}, {3, 1, 4}, {4, 0, 4}, {5, 1, 4}, {6, 2, 4}, {7, 1, 8}, {15, 1, 16}, {16, 0, 16}};
        for (long[] row : rows) {
            StabilitySums s = withTanks(16);
            s.filled(0, row[0]);
            fills(s, "from " + row[0] + " kg", row[1], row[2]);
        }
    }

    @Sentence(promise = 12, text = "so that no limit is broken")
    private void everyLimitIsKept() {
        StabilitySums s = withTanks(16);
        s.limit(0, 0, 4, 100);
        fills(s, "one limit", 4, 4);
        s.limit(0, 0, 5, 11);
        fills(s, "two limits", 8, 8);
        s.limit(0, 0, 9, 100);
        fills(s, "three limits", -1, -1);
    }

    @Sentence(promise = 12, text = "all those of values 1 to 5 and 7 are if D is 0")
    private void pumpingToADisplacementOf0() {
        StabilitySums s = withTanks(8);
        s.limit(1, 0, -BOUND, BOUND);
        fills(s, "an empty tank leaves D at 0", 2, 2);
        s.weight(-2, 0, 0, 0);
        fills(s, "a quarter leaves D at 0", 0, 0);
        s.filled(0, 2);
        fills(s, "from a quarter", 2, 0);
    }

    @Sentence(promise = 12, text = "the work is the sum of what each one's filling changes by")
    private void workInAndOut() {
        StabilitySums s = withTanks(8, 8);
        s.filled(0, 7);
        s.filled(1, 1);
        s.limit(0, 0, 8, 8);
        fills(s, "one out, one in", 2, 6, 2);
        s.limit(0, 0, 8, 8);
        s.filled(1, 3);
        fills(s, "one out, one out", 2, 6, 2);
    }

    @Sentence(promise = 12, text = "the work is the sum of what each one's filling changes by")
    private void mostWork() {
        StabilitySums s = withTanks(40000, 40000, 40000, 40000);
        s.limit(0, 0, 160000, BOUND);
        fills(s, "all full", 160000, 40000, 40000, 40000, 40000);
        StabilitySums empty = withTanks(40000, 40000, 40000, 40000);
        for (int i = 0; i < 4; i++) {
            empty.filled(i, 40000);
        }
        empty.limit(0, 0, -BOUND, 0);
        fills(empty, "all empty", 160000, 0, 0, 0, 0);
    }

    @Sentence(promise = 12, text = "The least work")
    private void leastWorkOfSeveral() {
        StabilitySums s = withTanks(40, 8);
        s.filled(0, 10);
        s.filled(1, 2);
        s.limit(0, 0, 18, 100);
        // Eight kilograms: six more in tank 1 reach it, ten more in tank 0 do too.
        fills(s, "the small tank", 6, 10, 8);
        s.limit(0, 0, 20, 22);
        fills(s, "the large tank", 10, 20, 2);
    }

    @Sentence(promise = 12, text = "F: the SURFACES of tanks that are neither empty nor full")
    private void surfacesOfPumping() {
        StabilitySums s = new StabilitySums();
        s.weight(100, 0, 0, 0);
        s.tank(40, 1000, 0, 0, 0);
        s.limit(4, 0, 0, 0);
        s.filled(0, 39);
        fills(s, "full", 1, 40);
        s.filled(0, 20);
        fills(s, "empty or full, empty ahead", 20, 0);
        s.filled(0, 21);
        fills(s, "full is nearer", 19, 40);
    }

    @Sentence(promise = 12, text = "(nothing is pumped)")
    private void nothingIsPumped() {
        StabilitySums s = mixedShip();
        s.filled(0, 3);
        unchanged(s, () -> {
            s.ballast();
            displacement(s, "as it was", 58);
            due.answers("slack as before", 1, () -> s.count(5));
        });
    }

    @Sentence(promise = 12, text = "-1 if there is none")
    private void noPumpingAtAll() {
        StabilitySums s = withTanks(8, 8, 8, 8);
        s.limit(0, 0, 33, 100);
        fills(s, "more than all can hold", -1, -1, -1, -1, -1);
        s.weight(1, 0, 0, 0);
        fills(s, "just enough", 32, 8, 8, 8, 8);
    }

    // Promise 13: fill

    @Sentence(promise = 13, text = "What a tank would be filled with by that")
    private void fillAsThingsChange() {
        StabilitySums s = withTanks(8, 16);
        s.limit(0, 0, 16, 100);
        fills(s, "empty tanks", 16, 0, 16);
        s.filled(0, 8);
        fills(s, "tank 0 full", 8, 8, 8);
        s.filled(1, 16);
        fills(s, "both full", 0, 8, 16);
        s.limit(0, 0, 0, 15);
        fills(s, "no pumping", -1, -1, -1);
    }

    @Sentence(promise = 13, text = "NONE without")
    private void fillWithoutAPumping() {
        StabilitySums s = withTanks(8);
        s.filled(0, 4);
        s.limit(0, 0, 5, 5);
        due.answers("no way to 5", StabilitySums.NONE, () -> s.fill(0));
        displacement(s, "as it was", 4);
    }

    @Sentence(promise = 13, text = "IndexOutOfBoundsException if there is no such tank")
    private void fillOfNoTank() {
        StabilitySums s = mixedShip();
        unchanged(s, () -> {
            due.throwing("tank 2", INDEX, () -> s.fill(2));
            for (int no : NO_INDEX) {
                due.throwing("tank " + no, INDEX, () -> s.fill(no));
            }
        });
        StabilitySums full = withTanks(4, 4, 4, 4);
        due.answers("tank 3 of 4", 0, () -> full.fill(3));
        unchanged(full, () -> {
            due.throwing("tank 4 of 4", INDEX, () -> full.fill(4));
        });
        StabilitySums none = new StabilitySums();
        none.weight(1, 0, 0, 0);
        unchanged(none, () -> {
            due.throwing("tank 0 of none", INDEX, () -> none.fill(0));
        });
    }

    @Sentence(promise = 13, text = "IndexOutOfBoundsException if there is no such tank")
    private void fillOfNoTankWithoutAPumping() {
        StabilitySums s = withTanks(8);
        s.limit(0, 0, 5, 5);
        unchanged(s, () -> {
            due.throwing("tank 1", INDEX, () -> s.fill(1));
            due.throwing("tank -1", INDEX, () -> s.fill(-1));
        });
    }

    @Sentence(promise = 13, text = "and of such the first: tanks compared by number, the one with less filled ahead")
    private void firstOfEqualWorks() {
        StabilitySums s = withTanks(8, 8, 8, 8);
        s.limit(0, 0, 2, 2);
        fills(s, "a quarter anywhere", 2, 0, 0, 0, 2);
        s.limit(2, 0, 0, 0);
        fills(s, "still", 2, 0, 0, 0, 2);
        StabilitySums full = withTanks(8, 8, 8, 8);
        for (int i = 0; i < 4; i++) {
            full.filled(i, 8);
        }
        full.limit(0, 0, 20, 20);
        fills(full, "six quarters out of the first two", 12, 0, 4, 8, 8);
    }

    @Sentence(promise = 13, text = "and of such the first: tanks compared by number, the one with less filled ahead")
    private void firstOfEqualWorksBothWays() {
        StabilitySums s = withTanks(8, 8);
        s.filled(0, 4);
        s.filled(1, 4);
        s.limit(0, 0, 8, 8);
        fills(s, "no work is less than any", 0, 4, 4);
        s.filled(0, 3);
        s.filled(1, 5);
        fills(s, "2 and 6 as near as 4 and 4", 2, 2, 6);
        StabilitySums halves = withTanks(8);
        halves.filled(0, 5);
        fills(halves, "4 as near as 6", 1, 4);
    }

    @Sentence(promise = 13, text = "The least work, and of such the first")
    private void lessWorkAheadOfLessFilled() {
        StabilitySums s = withTanks(8, 8);
        s.filled(0, 8);
        s.limit(0, 0, 6, 8);
        fills(s, "tank 0 stays as it is", 0, 8, 0);
    }

    @Sentence(promise = 13, text = "(nothing is pumped)")
    private void fillPumpsNothing() {
        StabilitySums s = mixedShip();
        unchanged(s, () -> {
            long first = s.fill(0);
            due.answers("asked again", first, () -> s.fill(0));
            displacement(s, "as it was", 58);
        });
    }
}
