/** The boundary cases of promises 7 to 9: values, shear and bending. */
public final class ValueBoundaryTest extends Boundary {
    private static final int[] DIVIDING = {1, 2, 3, 4, 5, 7};
    private static final int[] NO_INDEX = {-1, Integer.MIN_VALUE, Integer.MAX_VALUE};

    public static void main(String[] args) throws IllegalAccessException {
        new ValueBoundaryTest().runAll();
    }

    /** D is not 0, and X, Y, Z by D are x / d, y / d, z / d with d as the displacement. */
    private static StabilitySums withMoments(long d, long x, long y, long z) {
        StabilitySums s = new StabilitySums();
        s.weight(d - 1, 0, 0, 0);
        s.weight(1, x, y, z);
        return s;
    }

    private static StabilitySums heaviestShip(long x, long y, long z) {
        StabilitySums s = new StabilitySums();
        for (int i = 0; i < 40; i++) {
            s.weight(100000, x, y, z);
        }
        return s;
    }

    private void shears(StabilitySums s, long[][] rows) {
        for (long[] row : rows) {
            due.answers("shear(" + row[0] + ")", row[1], () -> s.shear(row[0]));
        }
    }

    private void bendings(StabilitySums s, long[][] rows) {
        for (long[] row : rows) {
            due.answers("bending(" + row[0] + ")", row[1], () -> s.bending(row[0]));
        }
    }

    // Promise 7: value

    @Sentence(promise = 7, text = "IllegalArgumentException if there is no such value")
    private void noSuchValue() {
        StabilitySums s = mixedShip();
        unchanged(s, () -> {
            for (int side = 0; side <= 2; side++) {
                int i = side;
                due.throwing("value(8, " + i + ")", ARGUMENT, () -> s.value(8, i));
                due.throwing("value(9, " + i + ")", ARGUMENT, () -> s.value(9, i));
                for (int no : NO_INDEX) {
                    due.throwing("value(" + no + ", " + i + ")", ARGUMENT, () -> s.value(no, i));
                }
            }
        });
    }

    @Sentence(promise = 7, text = "IllegalArgumentException if there is no such .. side")
    private void noSuchSide() {
        StabilitySums s = mixedShip();
        unchanged(s, () -> {
            for (int what = 0; what <= 7; what++) {
                int w = what;
                due.throwing("value(" + w + ", 3)", ARGUMENT, () -> s.value(w, 3));
                for (int no : NO_INDEX) {
                    due.throwing("value(" + w + ", " + no + ")", ARGUMENT, () -> s.value(w, no));
                }
            }
        });
    }

    @Sentence(promise = 7, text = "ArithmeticException if it divides by D, and D is 0")
    private void dividedByNothingAtFirst() {
        StabilitySums s = new StabilitySums();
        unchanged(s, () -> {
            for (int what : DIVIDING) {
                for (int side = 0; side <= 2; side++) {
                    int i = side;
                    due.throwing("value(" + what + ", " + i + ")", ARITHMETIC, () -> s.value(what, i));
                }
            }
        });
    }

    @Sentence(promise = 7, text = "ArithmeticException if it divides by D, and D is 0")
    private void dividedByWeightsThatCancel() {
        StabilitySums s = new StabilitySums();
        s.weight(9, 5, 6, 7);
        s.weight(-10, 1, 1, 1);
        s.tank(4, 3, 2, 2, 2);
        s.hydro(1, 3, 4);
        due.answers("D is -1", 1, () -> s.value(1, 2));
        s.filled(0, 1);
        unchanged(s, () -> {
            for (int what : DIVIDING) {
                for (int side = 0; side <= 2; side++) {
                    int i = side;
                    due.throwing("value(" + what + ", " + i + ")", ARITHMETIC, () -> s.value(what, i));
                }
            }
        });
        s.filled(0, 2);
        due.answers("D is 1", 1, () -> s.value(1, 2));
    }

    @Sentence(promise = 7, text = "Of several exceptions the one told first is thrown")
    private void valueToldFirst() {
        StabilitySums s = new StabilitySums();
        for (int what : DIVIDING) {
            due.throwing("value(" + what + ", 3) with D of 0", ARGUMENT, () -> s.value(what, 3));
            due.throwing("value(" + what + ", -1) with D of 0", ARGUMENT, () -> s.value(what, -1));
        }
        due.throwing("value(8, 0) with D of 0", ARGUMENT, () -> s.value(8, 0));
        due.throwing("value(-1, 0) with D of 0", ARGUMENT, () -> s.value(-1, 0));
    }

    @Sentence(promise = 7, text = "0 and 6 do not")
    private void values0And6WithoutD() {
        StabilitySums s = new StabilitySums();
        value(s, "no rows", 0, 0, 0, 1);
        value(s, "no rows", 6, 0, 0, 1);
        s.hydro(1, 3, -4);
        s.hydro(2, 3, -6);
        value(s, "rows", 6, -4, -4, 1);
        s.weight(5, 0, 0, 0);
        s.weight(-5, 0, 0, 0);
        value(s, "weights that cancel", 0, 0, 0, 1);
        value(s, "weights that cancel", 6, -4, -4, 1);
    }

    @Sentence(promise = 7, text = "side 0: rounded down")
    private void roundedDown() {
        long[][] rows = {{-7, -3}, {-6, -2}, {-5, -2}, {-4, -2}, {-3, -1}, {-2, -1}, {-1, -1}, {0, 0}, {1, 0}, {2, 0}, {3, 1}, {4, 1}};
        for (long[] row : rows) {
            StabilitySums s = withMoments(3, row[0], row[0] + 3, row[0] + 6);
            due.answers(row[0] + " / 3, value 1", row[1], () -> s.value(1, 0));
            due.answers(row[0] + " / 3 and 1, value 2", row[1] + 1, () -> s.value(2, 0));
            due.answers(row[0] + " / 3 and 2, value 3", row[1] + 2, () -> s.value(3, 0));
            due.answers(row[0] + " / 3 and 2, value 4", row[1] + 2, () -> s.value(4, 0));
        }
    }

    @Sentence(promise = 7, text = "1: the numerator, 2: the denominator .. A fraction in lowest terms")
    private void lowestTerms() {
        long[][] rows = {{8, 2, 1}, {-8, -2, 1}, {6, 3, 2}, {-6, -3, 2}, {1, 1, 4}, {-1, -1, 4}, {5, 5, 4}, {0, 0, 1}};
        for (long[] row : rows) {
            StabilitySums s = withMoments(4, row[0], row[0] + 4, row[0] + 8);
            due.answers(row[0] + " / 4, value 1", row[1], () -> s.value(1, 1));
            due.answers(row[0] + " / 4 and 1, value 2", row[1] + row[2], () -> s.value(2, 1));
            due.answers(row[0] + " / 4 and 2, value 3", row[1] + 2 * row[2], () -> s.value(3, 1));
            due.answers(row[0] + " / 4 and 2, value 4", row[1] + 2 * row[2], () -> s.value(4, 1));
            for (int what = 1; what <= 4; what++) {
                int w = what;
                due.answers("denominator of value " + what, row[2], () -> s.value(w, 2));
            }
        }
    }

    @Sentence(promise = 7, text = "A fraction in lowest terms has a denominator above 0")
    private void displacementBelow0() {
        StabilitySums s = new StabilitySums();
        s.weight(-6, 1, -1, 0);
        s.weight(2, 0, 0, 1);
        s.hull(0, 1);
        value(s, "D of -4", 0, -4, -4, 1);
        value(s, "-6 / -4", 1, 1, 3, 2);
        value(s, "6 / -4", 2, -2, -3, 2);
        value(s, "2 / -4", 3, -1, -1, 2);
        value(s, "0 less 2 / -4", 5, 0, 1, 2);
        value(s, "-6 / -4 less 1 / 2", 7, 1, 1, 1);
    }

    @Sentence(promise = 7, text = "F: the SURFACES of tanks that are neither empty nor full")
    private void surfacesFromEmptyToFull() {
        StabilitySums s = new StabilitySums();
        s.weight(100, 0, 0, 0);
        s.tank(8, 10000, 0, 0, 0);
        long[][] rows = {{0, 0}, {1, 10000}, {2, 10000}, {7, 10000}, {8, 0}};
        for (long[] row : rows) {
            s.filled(0, row[0]);
            due.answers("Z + F at " + row[0], row[1] / (100 + row[0]), () -> s.value(4, 0));
            due.answers("0 less that, at " + row[0], Math.floorDiv(-row[1], 100 + row[0]), () -> s.value(5, 0));
            value(s, "Z alone", 3, 0, 0, 1);
        }
    }

    @Sentence(promise = 7, text = "F: the SURFACES of tanks that are neither empty nor full")
    private void surfacesOfFourTanks() {
        StabilitySums s = new StabilitySums();
        s.weight(96, 0, 0, 0);
        for (int i = 0; i < 4; i++) {
            s.tank(4, (long) Math.pow(10, i + 2), 0, 0, 0);
        }
        s.filled(1, 1);
        s.filled(2, 3);
        value(s, "tanks 1 and 2 are slack", 4, 110, 110, 1);
        s.filled(1, 4);
        value(s, "tank 2 is slack", 4, 97, 10000, 103);
        s.filled(2, 4);
        value(s, "none is slack", 4, 0, 0, 1);
    }

    @Sentence(promise = 7, text = "between two rows by the straight line")
    private void betweenTwoRows() {
        StabilitySums s = new StabilitySums();
        s.tank(40, 0, 0, 0, 0);
        s.hydro(10, 6, -3);
        s.hydro(13, -4, 4);
        s.hydro(17, 0, 0);
        long[][] rows = {{11, 2, 8, 3, -1, -2, 3}, {12, -1, -2, 3, 1, 5, 3}, {14, -3, -3, 1, 3, 3, 1}, {15, -2, -2, 1, 2, 2, 1}};
        for (long[] row : rows) {
            s.filled(0, row[0]);
            value(s, "at " + row[0], 5, row[1], row[2], row[3]);
            value(s, "at " + row[0], 6, row[4], row[5], row[6]);
        }
    }

    @Sentence(promise = 7, text = "between two rows by the straight line")
    private void atARow() {
        StabilitySums s = new StabilitySums();
        s.tank(40, 0, 0, 0, 0);
        s.hydro(10, 6, -3);
        s.hydro(13, -4, 4);
        s.hydro(17, 1, 2);
        long[][] rows = {{10, 6, -3}, {13, -4, 4}, {17, 1, 2}};
        for (long[] row : rows) {
            s.filled(0, row[0]);
            value(s, "at " + row[0], 5, row[1], row[1], 1);
            value(s, "at " + row[0], 6, row[2], row[2], 1);
        }
    }

    @Sentence(promise = 7, text = "below the first row that")
    private void belowTheFirstRow() {
        StabilitySums s = new StabilitySums();
        s.tank(40, 0, 0, 0, 0);
        s.hydro(10, 6, -3);
        s.hydro(13, -4, 4);
        for (long kg : new long[] {1, 9}) {
            s.filled(0, kg);
            value(s, "at " + kg, 5, 6, 6, 1);
            value(s, "at " + kg, 6, -3, -3, 1);
        }
        s.filled(0, 0);
        value(s, "at 0", 6, -3, -3, 1);
        s.weight(-1, 0, 0, 0);
        value(s, "at -1", 5, 6, 6, 1);
        value(s, "at -1", 6, -3, -3, 1);
    }

    @Sentence(promise = 7, text = "above the last one that")
    private void aboveTheLastRow() {
        StabilitySums s = new StabilitySums();
        s.tank(40, 0, 0, 0, 0);
        s.hydro(10, 6, -3);
        s.hydro(13, -4, 4);
        for (long kg : new long[] {14, 40}) {
            s.filled(0, kg);
            value(s, "at " + kg, 5, -4, -4, 1);
            value(s, "at " + kg, 6, 4, 4, 1);
        }
        s.hydro(39, 1, 1);
        value(s, "above a new last one", 6, 1, 1, 1);
        s.filled(0, 14);
        value(s, "not above it any longer", 6, 3, 101, 26);
    }

    @Sentence(promise = 7, text = "above the last one that")
    private void aTableOfOneRow() {
        StabilitySums s = new StabilitySums();
        s.tank(40, 0, 0, 0, 0);
        s.hydro(10, 6, -3);
        for (long kg : new long[] {9, 10, 11}) {
            s.filled(0, kg);
            value(s, "at " + kg, 5, 6, 6, 1);
            value(s, "at " + kg, 6, -3, -3, 1);
        }
    }

    @Sentence(promise = 7, text = "without rows 0")
    private void withoutRows() {
        StabilitySums s = withMoments(3, 1, 1, -10);
        value(s, "0 less -10 / 3", 5, 3, 10, 3);
        value(s, "no draft", 6, 0, 0, 1);
    }

    @Sentence(promise = 7, text = "12 at most")
    private void aTableOfTwelveRows() {
        StabilitySums s = new StabilitySums();
        s.tank(400, 0, 0, 0, 0);
        for (int i = 1; i <= 12; i++) {
            s.hydro(10L * i, i * i, -i * i);
        }
        for (int i = 1; i <= 12; i++) {
            s.filled(0, 10L * i);
            value(s, "at row " + i, 6, -i * i, -i * i, 1);
            s.filled(0, 10L * i + 5);
            long twice = i == 12 ? 288 : i * i + (i + 1) * (i + 1);
            due.answers("between row " + i + " and the next", twice / 2, () -> s.value(5, 0));
            due.answers("between row " + i + " and the next", twice % 2 + 1, () -> s.value(5, 2));
        }
    }

    @Sentence(promise = 7, text = "7 the trim: X less D times the middle of THE HULL, all by D")
    private void trimByAHalf() {
        StabilitySums s = withMoments(1 + 2, 2, 0, 0);
        s.hull(0, 1);
        value(s, "2 / 3 less 1 / 2", 7, 0, 1, 6);
        s.hull(0, 2);
        value(s, "2 / 3 less 1", 7, -1, -1, 3);
        s.hull(-1, 0);
        value(s, "2 / 3 and 1 / 2", 7, 1, 7, 6);
        s.hull(-1, 1);
        value(s, "2 / 3", 7, 0, 2, 3);
    }

    @Sentence(promise = 7, text = "D: all KG and FILLED together")
    private void heaviestD() {
        StabilitySums s = heaviestShip(10000, -10000, 10000);
        for (int i = 0; i < 4; i++) {
            s.tank(40000, 1000000000, 10000, -10000, 10000);
            s.filled(i, 39999);
        }
        value(s, "heaviest", 0, 4159996, 4159996, 1);
        value(s, "heaviest", 1, 10000, 10000, 1);
        value(s, "heaviest", 2, -10000, -10000, 1);
        value(s, "heaviest", 4, 10961, 11399990000L, 1039999);
        value(s, "heaviest", 5, -10962, -11399990000L, 1039999);
        value(s, "heaviest", 7, 5000, 5000, 1);
    }

    @Sentence(promise = 7, text = "5 THE TABLE'S height at D less value 4")
    private void heaviestDInTheWidestTable() {
        StabilitySums s = heaviestShip(0, 0, -10000);
        s.hydro(1, -10000, 10000);
        s.hydro(5000000, 10000, -10000);
        // At 4000000 the height is 3999999 / 4999999 of the way from -10000 to 10000.
        value(s, "height", 5, 15999, 20000L * 3999999, 4999999);
        value(s, "draft", 6, -6000, -29999990000L, 4999999);
    }

    // Promise 8: shear

    @Sentence(promise = 8, text = "IllegalArgumentException if x is no place")
    private void shearOutside() {
        StabilitySums s = mixedShip();
        unchanged(s, () -> {
            for (long no : NO_PLACES) {
                due.throwing("shear(" + no + ")", ARGUMENT, () -> s.shear(no));
            }
        });
    }

    @Sentence(promise = 8, text = "Places are -10000 .. 10000 each")
    private void shearAtTheEnds() {
        StabilitySums s = new StabilitySums();
        s.weight(10, -10000, 0, 0);
        s.weight(1, 10000, 0, 0);
        shears(s, new long[][] {{-10000, 0}, {-9999, 10}, {10000, -1}});
    }

    @Sentence(promise = 8, text = "KG and FILLED of all that have a lesser x")
    private void shearOfALesserX() {
        StabilitySums s = new StabilitySums();
        s.weight(5, -3, 0, 0);
        s.weight(-2, -2, 0, 0);
        s.tank(4, 0, -1, 0, 0);
        s.tank(4, 0, -4, 0, 0);
        s.filled(0, 4);
        shears(s, new long[][] {{-4, 0}, {-3, 0}, {-2, 5}, {-1, 3}, {0, 7}});
    }

    @Sentence(promise = 8, text = "none ahead of LEFT")
    private void shearAheadOfLeft() {
        StabilitySums s = new StabilitySums();
        s.hull(0, 10);
        s.weight(7, -5, 0, 0);
        s.weight(3, 20, 0, 0);
        shears(s, new long[][] {{-10000, 0}, {-5, 0}, {-4, 7}, {-1, 7}, {0, 7}, {1, 6}});
    }

    @Sentence(promise = 8, text = "all behind RIGHT")
    private void shearBehindRight() {
        StabilitySums s = new StabilitySums();
        s.hull(0, 10);
        s.weight(7, -5, 0, 0);
        s.weight(3, 20, 0, 0);
        shears(s, new long[][] {{9, -2}, {10, -3}, {11, -3}, {20, -3}, {21, 0}, {10000, 0}});
    }

    @Sentence(promise = 8, text = "the part of D that lies ahead of x if it is spread evenly over THE HULL")
    private void shearOfAnEvenSpread() {
        StabilitySums s = new StabilitySums();
        s.hull(-5, 5);
        s.weight(100, 9, 0, 0);
        for (long x = -5; x <= 5; x++) {
            long at = x;
            due.answers("shear(" + x + ")", -10 * (x + 5), () -> s.shear(at));
        }
    }

    @Sentence(promise = 8, text = "Both rounded down")
    private void shearRoundedDown() {
        StabilitySums s = new StabilitySums();
        s.hull(0, 3);
        s.weight(1, -1, 0, 0);
        shears(s, new long[][] {{0, 1}, {1, 0}, {2, 0}, {3, 0}});
        StabilitySums behind = new StabilitySums();
        behind.hull(0, 3);
        behind.weight(1, 9, 0, 0);
        shears(behind, new long[][] {{0, 0}, {1, -1}, {2, -1}, {3, -1}});
        StabilitySums below = new StabilitySums();
        below.hull(0, 3);
        below.weight(-1, 9, 0, 0);
        shears(below, new long[][] {{0, 0}, {1, 0}, {2, 0}, {3, 1}});
    }

    @Sentence(promise = 8, text = "SHEAR")
    private void shearWithoutD() {
        StabilitySums s = new StabilitySums();
        shears(s, new long[][] {{-10000, 0}, {0, 0}, {1, 0}, {10000, 0}});
        s.weight(5, 10, 0, 0);
        s.weight(-5, 20, 0, 0);
        shears(s, new long[][] {{10, 0}, {11, 5}, {20, 5}, {21, 0}});
    }

    @Sentence(promise = 8, text = "SHEAR")
    private void shearOfTheHeaviest() {
        StabilitySums s = heaviestShip(-10000, 0, 0);
        s.hull(-10000, 10000);
        shears(s, new long[][] {{-10000, 0}, {-9999, 3999800}, {0, 2000000}, {9999, 200}, {10000, 0}});
    }

    // Promise 9: bending

    @Sentence(promise = 9, text = "IllegalArgumentException if x is no place")
    private void bendingOutside() {
        StabilitySums s = mixedShip();
        unchanged(s, () -> {
            for (long no : NO_PLACES) {
                due.throwing("bending(" + no + ")", ARGUMENT, () -> s.bending(no));
            }
        });
    }

    @Sentence(promise = 9, text = "Places are -10000 .. 10000 each")
    private void bendingAtTheEnds() {
        StabilitySums s = new StabilitySums();
        s.weight(10, -10000, 0, 0);
        bendings(s, new long[][] {{-10000, 0}, {-9999, 10}, {10000, 10 * 20000 - 10 * 5000}});
    }

    @Sentence(promise = 9, text = "KG and FILLED times (x - theirs), of these")
    private void bendingOfALesserX() {
        StabilitySums s = new StabilitySums();
        s.weight(5, -3, 0, 0);
        s.weight(-2, -2, 0, 0);
        s.tank(4, 0, -1, 0, 0);
        s.tank(4, 0, -4, 0, 0);
        s.filled(0, 4);
        bendings(s, new long[][] {{-4, 0}, {-3, 0}, {-2, 5}, {-1, 8}, {0, 15}});
    }

    @Sentence(promise = 9, text = "none ahead of LEFT")
    private void bendingAheadOfLeft() {
        StabilitySums s = new StabilitySums();
        s.hull(0, 10);
        s.weight(7, -5, 0, 0);
        s.weight(3, 20, 0, 0);
        // Behind LEFT 10 kg over 10 lengths: less x * x / 2.
        bendings(s, new long[][] {{-5, 0}, {-4, 7}, {-1, 28}, {0, 35}, {1, 41}, {2, 47}});
    }

    @Sentence(promise = 9, text = "less the part of D ahead of x times half its length")
    private void bendingOfAnEvenSpread() {
        StabilitySums s = new StabilitySums();
        s.hull(-5, 5);
        s.weight(20, 9, 0, 0);
        for (long x = -5; x <= 5; x++) {
            long at = x;
            due.answers("bending(" + x + ")", -(x + 5) * (x + 5), () -> s.bending(at));
        }
    }

    @Sentence(promise = 9, text = "behind RIGHT: D times x less the middle")
    private void bendingBehindRight() {
        StabilitySums s = new StabilitySums();
        s.hull(0, 10);
        s.weight(7, -5, 0, 0);
        s.weight(3, 20, 0, 0);
        bendings(s, new long[][] {{9, 57}, {10, 55}, {11, 52}, {20, 25}, {21, 25}, {10000, 25}});
    }

    @Sentence(promise = 9, text = "Both rounded down")
    private void bendingRoundedDown() {
        StabilitySums s = new StabilitySums();
        s.hull(0, 3);
        s.weight(1, 9, 0, 0);
        // Less x * x / 6, behind RIGHT less x - 3 / 2.
        bendings(s, new long[][] {{0, 0}, {1, -1}, {2, -1}, {3, -2}, {4, -3}, {9, -8}, {10, -8}});
        StabilitySums below = new StabilitySums();
        below.hull(0, 3);
        below.weight(-1, 9, 0, 0);
        bendings(below, new long[][] {{0, 0}, {1, 0}, {2, 0}, {3, 1}, {4, 2}, {9, 7}, {10, 7}});
    }

    @Sentence(promise = 9, text = "BENDING")
    private void bendingWithoutD() {
        StabilitySums s = new StabilitySums();
        bendings(s, new long[][] {{-10000, 0}, {0, 0}, {1, 0}, {10000, 0}});
        s.weight(5, 10, 0, 0);
        s.weight(-5, 20, 0, 0);
        bendings(s, new long[][] {{10, 0}, {11, 5}, {20, 50}, {21, 50}, {10000, 50}});
    }

    @Sentence(promise = 9, text = "BENDING")
    private void bendingOfTheHeaviest() {
        StabilitySums s = heaviestShip(-10000, 0, 0);
        s.hull(-10000, 10000);
        bendings(s, new long[][] {{-10000, 0}, {0, 40000000000L - 10000000000L}, {9999, 39999999900L}, {10000, 40000000000L}});
        s.hull(-10000, -9999);
        bendings(s, new long[][] {{10000, 2000000}, {9999, 2000000}, {-9999, 2000000}});
    }
}
