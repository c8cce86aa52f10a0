/** The boundary cases of promises 14 to 17: steps, and counts. */
public final class StepBoundaryTest extends Boundary {
    private static final long BOUND = 10000000000000L;
    private static final int[] NO_INDEX = {-1, Integer.MIN_VALUE, Integer.MAX_VALUE};

    public static void main(String[] args) throws IllegalAccessException {
        new StepBoundaryTest().runAll();
    }

    private static StabilitySums withSteps(int count) {
        StabilitySums s = new StabilitySums();
        s.weight(5, 0, 0, 0);
        s.tank(8, 0, 0, 0, 0);
        for (int i = 0; i < count; i++) {
            s.plan(i % 2 == 0, 0, 1);
        }
        return s;
    }

    private void steps(StabilitySums s, int... wants) {
        for (int i = 0; i < wants.length; i++) {
            int step = i;
            due.answers("step(" + i + ")", wants[i], () -> s.step(step));
        }
    }

    // Promise 14: plan

    @Sentence(promise = 14, text = "A STEP: its number")
    private void stepsAreNumberedFrom0() {
        StabilitySums s = withSteps(0);
        for (int i = 0; i < 20; i++) {
            int step = i;
            due.answers("step " + i, i, () -> s.plan(step % 3 == 0, 0, 1));
        }
    }

    @Sentence(promise = 14, text = "IllegalStateException if there are 20")
    private void step20IsTooMany() {
        StabilitySums s = withSteps(19);
        due.answers("the last one", 19, () -> s.plan(true, 0, 2));
        unchanged(s, () -> {
            due.throwing("one more of a tank", STATE, () -> s.plan(true, 0, 8));
            due.throwing("one more of a weight", STATE, () -> s.plan(false, 0, 100000));
        });
        due.answers("steps", 20, () -> s.count(4));
    }

    @Sentence(promise = 14, text = "IndexOutOfBoundsException if there is no such tank")
    private void planOfNoTank() {
        StabilitySums s = mixedShip();
        s.weight(1, 0, 0, 0);
        due.answers("the last tank", 2, () -> s.plan(true, 1, 0));
        unchanged(s, () -> {
            due.throwing("tank 2, where there is a weight 2", INDEX, () -> s.plan(true, 2, 0));
            for (int no : NO_INDEX) {
                due.throwing("tank " + no, INDEX, () -> s.plan(true, no, 0));
            }
        });
        StabilitySums none = new StabilitySums();
        unchanged(none, () -> {
            due.throwing("tank 0 of none", INDEX, () -> none.plan(true, 0, 0));
        });
        StabilitySums full = new StabilitySums();
        for (int i = 0; i < 4; i++) {
            full.tank(4, 0, 0, 0, 0);
        }
        due.answers("tank 3 of 4", 0, () -> full.plan(true, 3, 4));
        unchanged(full, () -> {
            due.throwing("tank 4 of 4", INDEX, () -> full.plan(true, 4, 4));
        });
    }

    @Sentence(promise = 14, text = "IndexOutOfBoundsException if there is no such .. weight")
    private void planOfNoWeight() {
        StabilitySums s = mixedShip();
        s.tank(4, 0, 0, 0, 0);
        due.answers("the last weight", 2, () -> s.plan(false, 1, 0));
        unchanged(s, () -> {
            due.throwing("weight 2, where there is a tank 2", INDEX, () -> s.plan(false, 2, 0));
            for (int no : NO_INDEX) {
                due.throwing("weight " + no, INDEX, () -> s.plan(false, no, 0));
            }
        });
        StabilitySums none = new StabilitySums();
        unchanged(none, () -> {
            due.throwing("weight 0 of none", INDEX, () -> none.plan(false, 0, 0));
        });
        StabilitySums full = new StabilitySums();
        for (int i = 0; i < 40; i++) {
            full.weight(1, 0, 0, 0);
        }
        due.answers("weight 39 of 40", 0, () -> full.plan(false, 39, 4));
        unchanged(full, () -> {
            due.throwing("weight 40 of 40", INDEX, () -> full.plan(false, 40, 4));
        });
    }

    @Sentence(promise = 14, text = "IllegalArgumentException if it can't be filled so")
    private void planOfTooLittle() {
        StabilitySums s = mixedShip();
        unchanged(s, () -> {
            for (long kg : new long[] {-1, -8, -100000, -4294967292L, Long.MIN_VALUE}) {
                due.throwing("tank 0 with " + kg, ARGUMENT, () -> s.plan(true, 0, kg));
            }
        });
        due.answers("empty", 2, () -> s.plan(true, 0, 0));
    }

    @Sentence(promise = 14, text = "IllegalArgumentException if it can't be filled so")
    private void planOfTooMuch() {
        StabilitySums s = mixedShip();
        unchanged(s, () -> {
            for (long kg : new long[] {9, 12, 40000, 100000, 100001, 4294967300L, Long.MAX_VALUE}) {
                due.throwing("tank 0 with " + kg, ARGUMENT, () -> s.plan(true, 0, kg));
            }
            due.throwing("tank 1 with 13", ARGUMENT, () -> s.plan(true, 1, 13));
        });
        due.answers("tank 0 full", 2, () -> s.plan(true, 0, 8));
        due.answers("tank 1 full", 3, () -> s.plan(true, 1, 12));
    }

    @Sentence(promise = 14, text = "or kg is not -100000 ..")
    private void planOfTooMuchLess() {
        StabilitySums s = mixedShip();
        unchanged(s, () -> {
            for (long kg : new long[] {-100001, -4294967296L, Long.MIN_VALUE}) {
                due.throwing("weight 0 by " + kg, ARGUMENT, () -> s.plan(false, 0, kg));
            }
        });
        due.answers("weight 0 by -100000", 2, () -> s.plan(false, 0, -100000));
    }

    @Sentence(promise = 14, text = ".. 100000")
    private void planOfTooMuchMore() {
        StabilitySums s = mixedShip();
        unchanged(s, () -> {
            for (long kg : new long[] {100001, 4294967296L, Long.MAX_VALUE}) {
                due.throwing("weight 0 by " + kg, ARGUMENT, () -> s.plan(false, 0, kg));
            }
        });
        due.answers("weight 0 by 100000", 2, () -> s.plan(false, 0, 100000));
    }

    @Sentence(promise = 14, text = "kg is not -100000 .. 100000")
    private void planOfNothingMore() {
        StabilitySums s = new StabilitySums();
        s.weight(5, 0, 0, 0);
        s.limit(0, 0, 5, 5);
        due.answers("weight 0 by 0", 0, () -> s.plan(false, 0, 0));
        steps(s, 0);
    }

    @Sentence(promise = 14, text = "Of several exceptions the one told first is thrown")
    private void planToldFirst() {
        StabilitySums s = withSteps(20);
        unchanged(s, () -> {
            due.throwing("no tank, too much", INDEX, () -> s.plan(true, 1, 9));
            due.throwing("no weight, too much", INDEX, () -> s.plan(false, 1, 100001));
            due.throwing("no tank", INDEX, () -> s.plan(true, -1, 1));
            due.throwing("no weight", INDEX, () -> s.plan(false, -1, 1));
            due.throwing("too much for the tank", ARGUMENT, () -> s.plan(true, 0, 9));
            due.throwing("below 0 for the tank", ARGUMENT, () -> s.plan(true, 0, -1));
            due.throwing("too much for the weight", ARGUMENT, () -> s.plan(false, 0, 100001));
        });
        StabilitySums few = withSteps(2);
        unchanged(few, () -> {
            due.throwing("no tank, too much, room for it", INDEX, () -> few.plan(true, 1, 9));
            due.throwing("no weight, too much, room for it", INDEX, () -> few.plan(false, 1, 100001));
        });
    }

    @Sentence(promise = 14, text = "They are no more than told")
    private void stepsAreOnlyTold() {
        StabilitySums s = new StabilitySums();
        s.weight(5, 0, 0, 0);
        s.tank(8, 10, 0, 0, 0);
        s.plan(true, 0, 7);
        s.plan(false, 0, 100);
        displacement(s, "as it was", 5);
        due.answers("no tank is slack", 0, () -> s.count(5));
        value(s, "no surface", 4, 0, 0, 1);
    }

    // Promise 15: step

    @Sentence(promise = 15, text = "IndexOutOfBoundsException if there is no such step")
    private void noSuchStep() {
        StabilitySums none = withSteps(0);
        unchanged(none, () -> {
            due.throwing("step 0 of none", INDEX, () -> none.step(0));
        });
        StabilitySums s = mixedShip();
        unchanged(s, () -> {
            due.throwing("step 2 of 2", INDEX, () -> s.step(2));
            for (int no : NO_INDEX) {
                due.throwing("step " + no, INDEX, () -> s.step(no));
            }
        });
        StabilitySums full = withSteps(20);
        due.answers("step 19 of 20", 0, () -> full.step(19));
        unchanged(full, () -> {
            due.throwing("step 20 of 20", INDEX, () -> full.step(20));
        });
    }

    @Sentence(promise = 15, text = "when the steps up to i are done")
    private void stepsUpToI() {
        StabilitySums s = new StabilitySums();
        s.weight(1, 0, 0, 0);
        for (int i = 0; i < 20; i++) {
            s.plan(false, 0, 1);
        }
        for (int limit = 1; limit <= 10; limit++) {
            s.limit(0, 0, -BOUND, 22 - 2 * limit);
        }
        // Behind step i there are i + 2 kilograms.
        for (int i = 0; i < 20; i++) {
            int step = i;
            int kg = i + 2;
            int want = 0;
            for (int limit = 10; limit >= 1; limit--) {
                want = kg > 22 - 2 * limit ? limit : want;
            }
            due.answers("step(" + i + ")", want, () -> s.step(step));
        }
    }

    @Sentence(promise = 15, text = "(and not taken into account what was broken ahead of that)")
    private void brokenAheadOfThat() {
        StabilitySums s = new StabilitySums();
        s.tank(8, 0, 0, 0, 0);
        s.limit(0, 0, 0, 3);
        s.filled(0, 5);
        s.plan(true, 0, 2);
        s.plan(true, 0, 6);
        s.plan(true, 0, 7);
        s.plan(true, 0, 3);
        due.answers("broken at first", 1, s::check);
        steps(s, 0, 1, 1, 0);
    }

    @Sentence(promise = 15, text = "The least limit that is broken")
    private void leastLimitBehindAStep() {
        StabilitySums s = new StabilitySums();
        s.tank(40, 0, 0, 0, 0);
        s.limit(0, 0, 0, 30);
        s.limit(0, 0, 0, 20);
        s.limit(0, 0, 10, 100);
        s.plan(true, 0, 9);
        s.plan(true, 0, 10);
        s.plan(true, 0, 20);
        s.plan(true, 0, 21);
        s.plan(true, 0, 30);
        s.plan(true, 0, 31);
        steps(s, 3, 0, 0, 2, 2, 1);
    }

    @Sentence(promise = 15, text = "0 without")
    private void stepsWithoutLimits() {
        steps(withSteps(20), new int[20]);
    }

    @Sentence(promise = 15, text = "a tank that is filled with so much")
    private void aTankIsFilledAnew() {
        StabilitySums s = new StabilitySums();
        s.weight(100, 0, 0, 0);
        s.tank(8, 1000, 0, 0, 0);
        s.filled(0, 3);
        s.limit(4, 0, 0, 0);
        s.limit(0, 0, 100, 107);
        s.plan(true, 0, 0);
        s.plan(true, 0, 1);
        s.plan(true, 0, 8);
        s.plan(true, 0, 8);
        s.plan(true, 0, 7);
        s.plan(true, 0, 0);
        steps(s, 0, 1, 2, 2, 1, 0);
    }

    @Sentence(promise = 15, text = "so much more KG for a weight")
    private void aWeightBeyondAllKg() {
        StabilitySums s = new StabilitySums();
        s.weight(100000, 1, 0, 0);
        s.limit(0, 0, -100000, 200000);
        s.plan(false, 0, 100000);
        s.plan(false, 0, 1);
        s.plan(false, 0, -100000);
        s.plan(false, 0, -100000);
        s.plan(false, 0, -100000);
        s.plan(false, 0, -1);
        s.plan(false, 0, -1);
        steps(s, 0, 1, 0, 0, 0, 0, 1);
    }

    @Sentence(promise = 15, text = "all those of values 1 to 5 and 7 are if D is 0")
    private void stepsToADisplacementOf0() {
        int[] wants = {0, 1, 1, 1, 1, 1, 0, 1, 0, 0};
        for (int what = 0; what <= 9; what++) {
            StabilitySums s = new StabilitySums();
            s.weight(5, 1, 2, 3);
            s.limit(what, 0, -BOUND, BOUND);
            s.plan(false, 0, -5);
            s.plan(false, 0, -1);
            steps(s, wants[what], 0);
        }
    }

    @Sentence(promise = 15, text = "to look at them they are done one behind the other, from what is there")
    private void fromWhatIsThere() {
        StabilitySums s = new StabilitySums();
        s.weight(1, 0, 0, 0);
        s.tank(8, 0, 0, 0, 0);
        s.tank(8, 0, 0, 0, 0);
        s.plan(false, 0, 1);
        s.plan(true, 0, 4);
        s.limit(0, 0, 0, 8);
        steps(s, 0, 0);
        s.filled(1, 3);
        steps(s, 0, 1);
        s.filled(0, 8);
        steps(s, 1, 1);
        s.filled(1, 2);
        steps(s, 1, 0);
        s.weight(1, 0, 0, 0);
        steps(s, 1, 1);
    }

    @Sentence(promise = 15, text = "They are no more than told")
    private void lookingAtStepsChangesNothing() {
        StabilitySums s = mixedShip();
        unchanged(s, () -> {
            s.step(1);
            s.step(0);
            s.step(1);
            displacement(s, "as it was", 58);
        });
    }

    @Sentence(promise = 15, text = "SHEAR (8) or BENDING (9) at a cut is")
    private void cutsBehindSteps() {
        StabilitySums s = new StabilitySums();
        s.hull(0, 10);
        s.weight(10, 2, 0, 0);
        s.tank(8, 0, 8, 0, 0);
        s.limit(8, 3, 7, 8);
        s.limit(9, 3, 5, 6);
        // Shear at 3: KG less 3 / 10 of D; bending: KG less 9 / 20 of D.
        s.plan(true, 0, 8);
        s.plan(false, 0, 1);
        s.plan(true, 0, 0);
        s.plan(false, 0, 1);
        // 10 - 5.4 = 4.6; 11 - 5.7 = 5.3; 11 - 3.3 = 7.7 and 11 - 4.95 = 6.05; 12 - 3.6 = 8.4 and 12 - 5.4 = 6.6.
        steps(s, 1, 1, 0, 0);
        s.plan(false, 0, 1);
        // 13 - 3.9 = 9.1.
        due.answers("step(4)", 1, () -> s.step(4));
    }

    // Promise 16: broken

    @Sentence(promise = 16, text = "NONE without")
    private void brokenWithoutSteps() {
        StabilitySums s = new StabilitySums();
        due.answers("a new ship", StabilitySums.NONE, s::broken);
        s.limit(0, 0, 1, 1);
        due.answers("a limit is broken, but no step told", StabilitySums.NONE, s::broken);
        due.answers("it is broken", 1, s::check);
    }

    @Sentence(promise = 16, text = "NONE without")
    private void brokenWithoutLimits() {
        StabilitySums s = withSteps(20);
        due.answers("20 steps without limits", StabilitySums.NONE, s::broken);
        s.limit(0, 0, 0, 100);
        due.answers("20 steps that keep a limit", StabilitySums.NONE, s::broken);
    }

    @Sentence(promise = 16, text = "The first step behind which a limit is broken")
    private void brokenAtEachStep() {
        for (int first = 0; first < 20; first++) {
            StabilitySums s = new StabilitySums();
            s.tank(8, 0, 0, 0, 0);
            s.limit(0, 0, 0, 7);
            s.limit(0, 0, 0, 3);
            for (int i = 0; i < 20; i++) {
                s.plan(true, 0, i == first ? 4 : i > first && i % 2 == 0 ? 8 : 3);
            }
            due.answers("broken behind step " + first, first, s::broken);
        }
    }

    @Sentence(promise = 16, text = "The first step behind which a limit is broken")
    private void brokenOnlyAheadOfAllSteps() {
        StabilitySums s = new StabilitySums();
        s.tank(8, 0, 0, 0, 0);
        s.filled(0, 8);
        s.limit(0, 0, 0, 7);
        s.plan(true, 0, 7);
        s.plan(true, 0, 1);
        due.answers("broken at first", 1, s::check);
        due.answers("mended by step 0", StabilitySums.NONE, s::broken);
    }

    @Sentence(promise = 16, text = "The first step behind which a limit is broken")
    private void brokenFromTheBeginning() {
        StabilitySums s = new StabilitySums();
        s.tank(8, 0, 0, 0, 0);
        s.filled(0, 8);
        s.limit(0, 0, 0, 6);
        s.plan(true, 0, 7);
        s.plan(true, 0, 1);
        due.answers("broken at first, and behind step 0 still", 0, s::broken);
    }

    @Sentence(promise = 16, text = "They are no more than told")
    private void brokenChangesNothing() {
        StabilitySums s = mixedShip();
        unchanged(s, () -> {
            int first = s.broken();
            due.answers("asked again", first, s::broken);
            displacement(s, "as it was", 58);
        });
    }

    // Promise 17: count

    @Sentence(promise = 17, text = "NONE for another what")
    private void countOfAnother() {
        StabilitySums s = mixedShip();
        due.answers("count(6)", StabilitySums.NONE, () -> s.count(6));
        due.answers("count(7)", StabilitySums.NONE, () -> s.count(7));
        for (int no : NO_INDEX) {
            due.answers("count(" + no + ")", StabilitySums.NONE, () -> s.count(no));
        }
    }

    @Sentence(promise = 17, text = "what 0: weights, 1: tanks, 2: rows, 3: limits, 4: steps")
    private void countsOfAFullShip() {
        StabilitySums s = new StabilitySums();
        long[] mosts = {40, 4, 12, 10, 20};
        for (int i = 1; i <= 41; i++) {
            long number = i;
            tellMore(s, number);
            for (int what = 0; what <= 4; what++) {
                int w = what;
                due.answers("count(" + w + ") at round " + i, Math.min(number, mosts[w]), () -> s.count(w));
            }
        }
    }

    /** One more of each kind; those that are full throw, and are not counted. */
    private static void tellMore(StabilitySums s, long number) {
        Due.Call[] calls = {() -> s.weight(1, 0, 0, 0), () -> s.tank(4, 0, 0, 0, 0), () -> s.hydro(number, 0, 0),
            () -> s.limit(0, 0, 0, 0), () -> s.plan(true, 0, 0)};
        for (Due.Call call : calls) {
            try {
                call.answer();
            } catch (IllegalStateException e) {
                continue;
            }
        }
    }

    @Sentence(promise = 17, text = "5: tanks that are neither empty nor full")
    private void countOfSlackTanks() {
        StabilitySums s = new StabilitySums();
        for (int i = 0; i < 4; i++) {
            s.tank(8, 0, 0, 0, 0);
        }
        long[][] rows = {{0, 1, 1}, {1, 7, 2}, {2, 4, 3}, {3, 2, 4}, {0, 8, 3}, {1, 0, 2}, {0, 7, 3}, {0, 0, 2}, {2, 8, 1}, {3, 9, 1}, {3, -1, 1}};
        due.answers("all empty", 0, () -> s.count(5));
        for (long[] row : rows) {
            s.filled((int) row[0], row[1]);
            due.answers("tank " + row[0] + " with " + row[1], row[2], () -> s.count(5));
        }
    }

    @Sentence(promise = 17, text = "5: tanks that are neither empty nor full")
    private void slackTanksByTheirOwnMost() {
        StabilitySums s = new StabilitySums();
        s.tank(4, 0, 0, 0, 0);
        s.tank(8, 0, 0, 0, 0);
        s.filled(0, 4);
        s.filled(1, 4);
        due.answers("4 fill the small tank alone", 1, () -> s.count(5));
        s.plan(true, 0, 2);
        s.step(0);
        due.answers("a step fills nothing", 1, () -> s.count(5));
        s.ballast();
        due.answers("nor does a pumping", 1, () -> s.count(5));
    }
}
