/** The boundary cases of promises 1 to 6: what a ship is told. */
public final class TellingBoundaryTest extends Boundary {
    public static void main(String[] args) throws IllegalAccessException {
        new TellingBoundaryTest().runAll();
    }

    private static StabilitySums withWeights(int count) {
        StabilitySums s = new StabilitySums();
        for (int i = 0; i < count; i++) {
            s.weight(1, 0, 0, 0);
        }
        return s;
    }

    private static StabilitySums withTanks(int count) {
        StabilitySums s = new StabilitySums();
        for (int i = 0; i < count; i++) {
            s.tank(8, 5, 0, 0, 0);
        }
        return s;
    }

    private static StabilitySums withRows(int count) {
        StabilitySums s = new StabilitySums();
        for (int i = 1; i <= count; i++) {
            s.hydro(10L * i, i, -i);
        }
        return s;
    }

    private static long told(boolean answer) {
        return answer ? 1 : 0;
    }

    // Promise 1: a new object

    @Sentence(promise = 1, text = "Nothing")
    private void nothingIsThere() {
        StabilitySums s = new StabilitySums();
        for (int what = 0; what <= 5; what++) {
            int w = what;
            due.answers("count(" + w + ")", 0, () -> s.count(w));
        }
        value(s, "new", 0, 0, 0, 1);
        value(s, "new", 6, 0, 0, 1);
        due.answers("check", 0, s::check);
        due.answers("ballast", 0, s::ballast);
        due.answers("broken", -1, s::broken);
    }

    @Sentence(promise = 1, text = "Nothing")
    private void anotherShipIsNoneOfItsOwn() {
        mixedShip();
        StabilitySums s = mixedShip();
        StabilitySums other = new StabilitySums();
        other.hull(-1, 1);
        other.weight(9, 9, 9, 9);
        due.holds("two ships share something", looksOf(s).equals(looksOf(mixedShip())));
        due.answers("limits of the other", 0, () -> other.count(3));
    }

    @Sentence(promise = 1, text = "THE HULL from 0")
    private void hullBeginsAt0() {
        StabilitySums s = new StabilitySums();
        s.weight(10000, 10000, 0, 0);
        due.answers("shear(-1)", 0, () -> s.shear(-1));
        due.answers("shear(0)", 0, () -> s.shear(0));
        due.answers("shear(1)", -1, () -> s.shear(1));
        due.answers("shear(2)", -2, () -> s.shear(2));
    }

    @Sentence(promise = 1, text = "to 10000")
    private void hullEndsAt10000() {
        StabilitySums s = new StabilitySums();
        s.weight(10000, 10000, 0, 0);
        due.answers("shear(9998)", -9998, () -> s.shear(9998));
        due.answers("shear(9999)", -9999, () -> s.shear(9999));
        due.answers("shear(10000)", -10000, () -> s.shear(10000));
        value(s, "the middle is 5000", 7, 5000, 5000, 1);
    }

    @Sentence(promise = 1, text = "An object is used for at most 512 calls")
    private void call512IsAnswered() {
        StabilitySums s = new StabilitySums();
        s.tank(40000, 0, 1, 0, 0);
        for (int i = 2; i <= 510; i++) {
            int kg = i;
            due.answers("call " + i, 1, () -> s.filled(0, kg));
        }
        due.answers("call 511", 510, () -> s.value(0, 0));
        due.answers("call 512", 509, () -> s.shear(2));
    }

    @Sentence(promise = 1, text = "NONE = -1")
    private void noneIsBelow0() {
        due.answers("NONE", -1, () -> StabilitySums.NONE);
    }

    // Promise 2: weight

    @Sentence(promise = 2, text = "A WEIGHT: its number")
    private void weightsAreNumberedFrom0() {
        StabilitySums s = new StabilitySums();
        for (int i = 0; i < 40; i++) {
            due.answers("weight " + i, i, () -> s.weight(1, 0, 0, 0));
        }
    }

    @Sentence(promise = 2, text = "IllegalStateException if there are 40")
    private void weight40IsTooMany() {
        StabilitySums s = withWeights(39);
        due.answers("the last one", 39, () -> s.weight(1, 0, 0, 0));
        unchanged(s, () -> {
            due.throwing("one more", STATE, () -> s.weight(1, 0, 0, 0));
            due.throwing("one more at the ends", STATE, () -> s.weight(-100000, 10000, 10000, 10000));
        });
        due.answers("weights", 40, () -> s.count(0));
    }

    @Sentence(promise = 2, text = "KG (-100000 .. 100000")
    private void heaviestAndLightestKg() {
        StabilitySums s = new StabilitySums();
        due.answers("100000", 0, () -> s.weight(100000, 0, 0, 0));
        displacement(s, "100000", 100000);
        due.answers("-100000", 1, () -> s.weight(-100000, 0, 0, 0));
        displacement(s, "-100000 more", 0);
        due.answers("-100000 again", 2, () -> s.weight(-100000, 0, 0, 0));
        displacement(s, "-100000 again", -100000);
    }

    @Sentence(promise = 2, text = "IllegalArgumentException if KG .. can't be")
    private void kgTooLarge() {
        StabilitySums s = mixedShip();
        unchanged(s, () -> {
            for (long kg : new long[] {100001, 4294967297L, Long.MAX_VALUE}) {
                due.throwing("weight of " + kg, ARGUMENT, () -> s.weight(kg, 0, 0, 0));
            }
        });
    }

    @Sentence(promise = 2, text = "IllegalArgumentException if KG .. can't be")
    private void kgTooSmall() {
        StabilitySums s = mixedShip();
        unchanged(s, () -> {
            for (long kg : new long[] {-100001, -4294967295L, Long.MIN_VALUE}) {
                due.throwing("weight of " + kg, ARGUMENT, () -> s.weight(kg, 0, 0, 0));
            }
        });
    }

    @Sentence(promise = 2, text = "not 0")
    private void kgOf0() {
        StabilitySums s = mixedShip();
        unchanged(s, () -> {
            due.throwing("weight of 0", ARGUMENT, () -> s.weight(0, 0, 0, 0));
        });
        due.answers("weight of 1", 2, () -> s.weight(1, 0, 0, 0));
        due.answers("weight of -1", 3, () -> s.weight(-1, 0, 0, 0));
    }

    @Sentence(promise = 2, text = "Places are -10000 .. 10000 each")
    private void weightsAtTheEnds() {
        for (long end : END_PLACES) {
            StabilitySums s = new StabilitySums();
            due.answers("x at the end " + end, 0, () -> s.weight(4, end, 1, 2));
            due.answers("y at the end " + end, 1, () -> s.weight(4, 3, end, 4));
            due.answers("z at the end " + end, 2, () -> s.weight(4, 5, 6, end));
            due.answers("X", (end + 8) * 4, () -> s.value(1, 1) * 12 / s.value(1, 2));
            due.answers("Y", (end + 7) * 4, () -> s.value(2, 1) * 12 / s.value(2, 2));
            due.answers("Z", (end + 6) * 4, () -> s.value(3, 1) * 12 / s.value(3, 2));
        }
    }

    @Sentence(promise = 2, text = "IllegalArgumentException if .. place can't be")
    private void weightXOutside() {
        StabilitySums s = mixedShip();
        unchanged(s, () -> {
            for (long no : NO_PLACES) {
                due.throwing("weight at x " + no, ARGUMENT, () -> s.weight(1, no, 0, 0));
            }
        });
    }

    @Sentence(promise = 2, text = "IllegalArgumentException if .. place can't be")
    private void weightYOutside() {
        StabilitySums s = mixedShip();
        unchanged(s, () -> {
            for (long no : NO_PLACES) {
                due.throwing("weight at y " + no, ARGUMENT, () -> s.weight(1, 0, no, 0));
            }
        });
    }

    @Sentence(promise = 2, text = "IllegalArgumentException if .. place can't be")
    private void weightZOutside() {
        StabilitySums s = mixedShip();
        unchanged(s, () -> {
            for (long no : NO_PLACES) {
                due.throwing("weight at z " + no, ARGUMENT, () -> s.weight(1, 0, 0, no));
            }
        });
    }

    @Sentence(promise = 2, text = "Of several exceptions the one told first is thrown")
    private void weightToldFirst() {
        StabilitySums s = withWeights(40);
        unchanged(s, () -> {
            due.throwing("of 0 kg", ARGUMENT, () -> s.weight(0, 0, 0, 0));
            due.throwing("of 100001 kg", ARGUMENT, () -> s.weight(100001, 0, 0, 0));
            due.throwing("x", ARGUMENT, () -> s.weight(1, 10001, 0, 0));
            due.throwing("y", ARGUMENT, () -> s.weight(1, 0, -10001, 0));
            due.throwing("z", ARGUMENT, () -> s.weight(1, 0, 0, 10001));
        });
    }

    // Promise 3: tank

    @Sentence(promise = 3, text = "A TANK: its number")
    private void tanksAreNumberedFrom0() {
        StabilitySums s = withWeights(3);
        for (int i = 0; i < 4; i++) {
            due.answers("tank " + i, i, () -> s.tank(4, 0, 0, 0, 0));
        }
    }

    @Sentence(promise = 3, text = "IllegalStateException if there are 4")
    private void tank4IsTooMany() {
        StabilitySums s = withTanks(3);
        due.answers("the last one", 3, () -> s.tank(4, 0, 0, 0, 0));
        unchanged(s, () -> {
            due.throwing("one more", STATE, () -> s.tank(4, 0, 0, 0, 0));
            due.throwing("one more, the largest", STATE, () -> s.tank(40000, 1000000000, 10000, 10000, 10000));
        });
        due.answers("tanks", 4, () -> s.count(1));
    }

    @Sentence(promise = 3, text = "MOST kilograms (4 ..")
    private void mostTooSmall() {
        StabilitySums s = mixedShip();
        unchanged(s, () -> {
            for (long most : new long[] {3, 2, 1, 0, -1, -4, -40000, -4294967292L, Long.MIN_VALUE}) {
                due.throwing("tank of " + most, ARGUMENT, () -> s.tank(most, 0, 0, 0, 0));
            }
        });
        due.answers("tank of 4", 2, () -> s.tank(4, 0, 0, 0, 0));
        due.answers("it takes 4", 1, () -> s.filled(2, 4));
        due.answers("but no 5", 0, () -> s.filled(2, 5));
    }

    @Sentence(promise = 3, text = ".. 40000")
    private void mostTooLarge() {
        StabilitySums s = mixedShip();
        unchanged(s, () -> {
            for (long most : new long[] {40001, 40004, 44000, 4294967300L, Long.MAX_VALUE, Long.MAX_VALUE - 3}) {
                due.throwing("tank of " + most, ARGUMENT, () -> s.tank(most, 0, 0, 0, 0));
            }
        });
        due.answers("tank of 40000", 2, () -> s.tank(40000, 0, 0, 0, 0));
        due.answers("it takes 40000", 1, () -> s.filled(2, 40000));
        due.answers("but no 40001", 0, () -> s.filled(2, 40001));
    }

    @Sentence(promise = 3, text = "a multiple of 4")
    private void mostIsAMultipleOf4() {
        StabilitySums s = mixedShip();
        unchanged(s, () -> {
            for (long most : new long[] {5, 6, 7, 9, 10, 39997, 39998, 39999}) {
                due.throwing("tank of " + most, ARGUMENT, () -> s.tank(most, 0, 0, 0, 0));
            }
        });
        due.answers("tank of 8", 2, () -> s.tank(8, 0, 0, 0, 0));
        due.answers("tank of 39996", 3, () -> s.tank(39996, 0, 0, 0, 0));
    }

    @Sentence(promise = 3, text = "a SURFACE (0 ..")
    private void surfaceTooSmall() {
        StabilitySums s = mixedShip();
        unchanged(s, () -> {
            for (long surface : new long[] {-1, -4294967296L, Long.MIN_VALUE}) {
                due.throwing("surface " + surface, ARGUMENT, () -> s.tank(4, surface, 0, 0, 0));
            }
        });
        due.answers("surface 0", 2, () -> s.tank(4, 0, 0, 0, 0));
    }

    @Sentence(promise = 3, text = ".. 1000000000")
    private void surfaceTooLarge() {
        StabilitySums s = new StabilitySums();
        unchanged(s, () -> {
            for (long surface : new long[] {1000000001L, 4294967296L, Long.MAX_VALUE}) {
                due.throwing("surface " + surface, ARGUMENT, () -> s.tank(4, surface, 0, 0, 0));
            }
        });
        for (int i = 0; i < 4; i++) {
            int tank = i;
            due.answers("surface 1000000000", i, () -> s.tank(4, 1000000000L, 0, 0, 0));
            due.answers("slack", 1, () -> s.filled(tank, 1));
        }
        value(s, "4000000000 in all", 4, 1000000000L, 1000000000L, 1);
    }

    @Sentence(promise = 3, text = "Places are -10000 .. 10000 each")
    private void tanksAtTheEnds() {
        for (long end : END_PLACES) {
            StabilitySums s = new StabilitySums();
            due.answers("x at the end " + end, 0, () -> s.tank(4, 0, end, 1, 2));
            due.answers("y at the end " + end, 1, () -> s.tank(4, 0, 3, end, 4));
            due.answers("z at the end " + end, 2, () -> s.tank(4, 0, 5, 6, end));
            for (int i = 0; i < 3; i++) {
                s.filled(i, 4);
            }
            due.answers("X", (end + 8) * 4, () -> s.value(1, 1) * 12 / s.value(1, 2));
            due.answers("Y", (end + 7) * 4, () -> s.value(2, 1) * 12 / s.value(2, 2));
            due.answers("Z", (end + 6) * 4, () -> s.value(3, 1) * 12 / s.value(3, 2));
        }
    }

    @Sentence(promise = 3, text = "IllegalArgumentException if .. place can't be")
    private void tankXOutside() {
        StabilitySums s = mixedShip();
        unchanged(s, () -> {
            for (long no : NO_PLACES) {
                due.throwing("tank at x " + no, ARGUMENT, () -> s.tank(4, 0, no, 0, 0));
            }
        });
    }

    @Sentence(promise = 3, text = "IllegalArgumentException if .. place can't be")
    private void tankYOutside() {
        StabilitySums s = mixedShip();
        unchanged(s, () -> {
            for (long no : NO_PLACES) {
                due.throwing("tank at y " + no, ARGUMENT, () -> s.tank(4, 0, 0, no, 0));
            }
        });
    }

    @Sentence(promise = 3, text = "IllegalArgumentException if .. place can't be")
    private void tankZOutside() {
        StabilitySums s = mixedShip();
        unchanged(s, () -> {
            for (long no : NO_PLACES) {
                due.throwing("tank at z " + no, ARGUMENT, () -> s.tank(4, 0, 0, 0, no));
            }
        });
    }

    @Sentence(promise = 3, text = "Of several exceptions the one told first is thrown")
    private void tankToldFirst() {
        StabilitySums s = withTanks(4);
        unchanged(s, () -> {
            due.throwing("MOST of 5", ARGUMENT, () -> s.tank(5, 0, 0, 0, 0));
            due.throwing("MOST of 0", ARGUMENT, () -> s.tank(0, 0, 0, 0, 0));
            due.throwing("SURFACE of -1", ARGUMENT, () -> s.tank(4, -1, 0, 0, 0));
            due.throwing("x", ARGUMENT, () -> s.tank(4, 0, 10001, 0, 0));
            due.throwing("y", ARGUMENT, () -> s.tank(4, 0, 0, -10001, 0));
            due.throwing("z", ARGUMENT, () -> s.tank(4, 0, 0, 0, 10001));
        });
    }

    @Sentence(promise = 3, text = "0 at first")
    private void newTankIsEmpty() {
        StabilitySums s = new StabilitySums();
        s.tank(40000, 1000000000, 10000, 10000, 10000);
        displacement(s, "a new tank", 0);
        due.throwing("value 1 of an empty tank", ARITHMETIC, () -> s.value(1, 0));
        due.answers("slack tanks", 0, () -> s.count(5));
        s.weight(3, 0, 0, 0);
        value(s, "no surface", 4, 0, 0, 1);
    }

    // Promise 4: filled

    @Sentence(promise = 4, text = "A tank is FILLED with so much: 1")
    private void filledFromEmptyToFull() {
        StabilitySums s = withTanks(1);
        for (long kg : new long[] {8, 7, 1, 0, 0, 4, 4}) {
            due.answers("filled with " + kg, 1, () -> s.filled(0, kg));
            displacement(s, "it is the filling, not more of it", kg);
        }
    }

    @Sentence(promise = 4, text = "0 if it is below 0")
    private void filledBelow0() {
        StabilitySums s = withTanks(1);
        s.filled(0, 3);
        for (long kg : new long[] {-1, -8, -4294967292L, Long.MIN_VALUE}) {
            due.answers("filled with " + kg, 0, () -> s.filled(0, kg));
            displacement(s, "it is as it was", 3);
        }
    }

    @Sentence(promise = 4, text = "or more than MOST")
    private void filledWithMoreThanMost() {
        StabilitySums s = withTanks(1);
        s.filled(0, 3);
        for (long kg : new long[] {9, 40000, 4294967300L, Long.MAX_VALUE}) {
            due.answers("filled with " + kg, 0, () -> s.filled(0, kg));
            displacement(s, "it is as it was", 3);
        }
    }

    @Sentence(promise = 4, text = "or more than MOST")
    private void filledByItsOwnMost() {
        StabilitySums s = new StabilitySums();
        s.tank(8, 0, 0, 0, 0);
        s.tank(16, 0, 0, 0, 0);
        s.tank(4, 0, 0, 0, 0);
        long[] mosts = {8, 16, 4};
        for (int i = 0; i < mosts.length; i++) {
            int tank = i;
            due.answers("one too many for tank " + i, 0, () -> s.filled(tank, mosts[tank] + 1));
            due.answers("full tank " + i, 1, () -> s.filled(tank, mosts[tank]));
        }
        displacement(s, "all full", 28);
    }

    @Sentence(promise = 4, text = "IndexOutOfBoundsException if there is no such tank")
    private void filledWithoutSuchATank() {
        StabilitySums s = mixedShip();
        unchanged(s, () -> {
            for (int no : new int[] {-1, 2, 3, 4, 5, Integer.MIN_VALUE, Integer.MAX_VALUE}) {
                due.throwing("tank " + no, INDEX, () -> s.filled(no, 0));
            }
        });
        StabilitySums full = withTanks(4);
        due.answers("tank 3 of 4", 1, () -> full.filled(3, 1));
        unchanged(full, () -> {
            due.throwing("tank 4 of 4", INDEX, () -> full.filled(4, 1));
        });
    }

    @Sentence(promise = 4, text = "IndexOutOfBoundsException if there is no such tank")
    private void filledWithoutTanks() {
        StabilitySums s = withWeights(2);
        unchanged(s, () -> {
            due.throwing("tank 0", INDEX, () -> s.filled(0, 0));
            due.throwing("tank 1", INDEX, () -> s.filled(1, 0));
        });
    }

    @Sentence(promise = 4, text = "IndexOutOfBoundsException if there is no such tank")
    private void noTankAndNoFilling() {
        StabilitySums s = mixedShip();
        unchanged(s, () -> {
            due.throwing("below 0", INDEX, () -> s.filled(2, -1));
            due.throwing("more than any MOST", INDEX, () -> s.filled(-1, 40001));
        });
    }

    // Promise 5: hydro

    @Sentence(promise = 5, text = "A row of THE TABLE: how many there are")
    private void rowsAreCountedFrom1() {
        StabilitySums s = new StabilitySums();
        for (int i = 1; i <= 12; i++) {
            int row = i;
            due.answers("row " + i, i, () -> s.hydro(row, 0, 0));
        }
    }

    @Sentence(promise = 5, text = "IllegalStateException if there are 12")
    private void row13IsTooMany() {
        StabilitySums s = withRows(11);
        due.answers("the last one", 12, () -> s.hydro(120, 0, 0));
        unchanged(s, () -> {
            due.throwing("one more", STATE, () -> s.hydro(121, 0, 0));
            due.throwing("one more, the largest", STATE, () -> s.hydro(5000000, 10000, 10000));
        });
        due.answers("rows", 12, () -> s.count(2));
    }

    @Sentence(promise = 5, text = "a displacement (1 and more")
    private void rowDisplacementTooSmall() {
        StabilitySums s = new StabilitySums();
        unchanged(s, () -> {
            for (long d : new long[] {0, -1, -4294967295L, Long.MIN_VALUE}) {
                due.throwing("row at " + d, ARGUMENT, () -> s.hydro(d, 0, 0));
            }
        });
        due.answers("row at 1", 1, () -> s.hydro(1, 0, 0));
    }

    @Sentence(promise = 5, text = "displacements up to 5000000")
    private void rowDisplacementTooLarge() {
        StabilitySums s = new StabilitySums();
        unchanged(s, () -> {
            for (long d : new long[] {5000001, 4294967297L, Long.MAX_VALUE}) {
                due.throwing("row at " + d, ARGUMENT, () -> s.hydro(d, 0, 0));
            }
        });
        due.answers("row at 5000000", 1, () -> s.hydro(5000000, 0, 0));
    }

    @Sentence(promise = 5, text = "or its displacement is not above that of the last one")
    private void rowsRise() {
        StabilitySums s = mixedShip();
        unchanged(s, () -> {
            for (long d : new long[] {70, 69, 20, 21, 1}) {
                due.throwing("row at " + d, ARGUMENT, () -> s.hydro(d, 1, 1));
            }
        });
        due.answers("row at 71", 3, () -> s.hydro(71, 1, 1));
        unchanged(s, () -> {
            due.throwing("row at 71 again", ARGUMENT, () -> s.hydro(71, 1, 1));
        });
    }

    @Sentence(promise = 5, text = "a height of the metacentre, a draft (both -10000 .. 10000)")
    private void rowsAtTheEnds() {
        for (long end : END_PLACES) {
            StabilitySums s = new StabilitySums();
            due.answers("height " + end, 1, () -> s.hydro(1, end, -end));
            s.weight(1, 0, 0, 0);
            value(s, "height " + end, 5, end, end, 1);
            value(s, "draft " + -end, 6, -end, -end, 1);
        }
    }

    @Sentence(promise = 5, text = "IllegalArgumentException if its numbers can't be")
    private void rowHeightOutside() {
        StabilitySums s = mixedShip();
        unchanged(s, () -> {
            for (long no : NO_PLACES) {
                due.throwing("height " + no, ARGUMENT, () -> s.hydro(100, no, 0));
            }
        });
    }

    @Sentence(promise = 5, text = "IllegalArgumentException if its numbers can't be")
    private void rowDraftOutside() {
        StabilitySums s = mixedShip();
        unchanged(s, () -> {
            for (long no : NO_PLACES) {
                due.throwing("draft " + no, ARGUMENT, () -> s.hydro(100, 0, no));
            }
        });
    }

    @Sentence(promise = 5, text = "Of several exceptions the one told first is thrown")
    private void rowToldFirst() {
        StabilitySums s = withRows(12);
        unchanged(s, () -> {
            due.throwing("at 0", ARGUMENT, () -> s.hydro(0, 0, 0));
            due.throwing("at 5000001", ARGUMENT, () -> s.hydro(5000001, 0, 0));
            due.throwing("at the last one's", ARGUMENT, () -> s.hydro(120, 0, 0));
            due.throwing("height", ARGUMENT, () -> s.hydro(121, 10001, 0));
            due.throwing("draft", ARGUMENT, () -> s.hydro(121, 0, -10001));
        });
    }

    // Promise 6: hull

    @Sentence(promise = 6, text = "THE HULL is told: true")
    private void longestHull() {
        StabilitySums s = new StabilitySums();
        s.weight(20000, 10000, 0, 0);
        due.answers("-10000 .. 10000", 1, () -> told(s.hull(-10000, 10000)));
        value(s, "the middle is 0", 7, 10000, 10000, 1);
        due.answers("shear(-10000)", 0, () -> s.shear(-10000));
        due.answers("shear(-9999)", -1, () -> s.shear(-9999));
        due.answers("shear(9999)", -19999, () -> s.shear(9999));
        due.answers("shear(10000)", -20000, () -> s.shear(10000));
    }

    @Sentence(promise = 6, text = "THE HULL is told: true")
    private void shortestHulls() {
        StabilitySums s = new StabilitySums();
        s.weight(1, 0, 0, 0);
        due.answers("-10000 .. -9999", 1, () -> told(s.hull(-10000, -9999)));
        value(s, "ahead of all", 7, 9999, 19999, 2);
        due.answers("9999 .. 10000", 1, () -> told(s.hull(9999, 10000)));
        value(s, "behind all", 7, -10000, -19999, 2);
        due.answers("-1 .. 0", 1, () -> told(s.hull(-1, 0)));
        value(s, "told again", 7, 0, 1, 2);
    }

    @Sentence(promise = 6, text = "false if an end can't be")
    private void leftOutside() {
        StabilitySums s = mixedShip();
        unchanged(s, () -> {
            for (long no : NO_PLACES) {
                due.answers("from " + no, 0, () -> told(s.hull(no, 10000)));
            }
        });
    }

    @Sentence(promise = 6, text = "false if an end can't be")
    private void rightOutside() {
        StabilitySums s = mixedShip();
        unchanged(s, () -> {
            for (long no : NO_PLACES) {
                due.answers("to " + no, 0, () -> told(s.hull(-10000, no)));
            }
            due.answers("both ends too small", 0, () -> told(s.hull(-10002, -10001)));
            due.answers("both ends too large", 0, () -> told(s.hull(10001, 10002)));
            due.answers("both ends outside", 0, () -> told(s.hull(Long.MIN_VALUE, Long.MAX_VALUE)));
        });
    }

    @Sentence(promise = 6, text = "or LEFT is not less than RIGHT")
    private void leftNotLess() {
        StabilitySums s = mixedShip();
        unchanged(s, () -> {
            long[][] ends = {{0, 0}, {5, 5}, {5, 4}, {10000, 10000}, {-10000, -10000}, {10000, -10000}, {-9999, -10000}};
            for (long[] pair : ends) {
                due.answers("from " + pair[0] + " to " + pair[1], 0, () -> told(s.hull(pair[0], pair[1])));
            }
        });
    }
}
