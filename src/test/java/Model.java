import java.math.BigInteger;
import java.util.ArrayList;
import java.util.List;

/** A second reading of the document, as plain as can be: nothing is kept but what was told. */
final class Model {
    /** A fraction in lowest terms with a denominator above 0. */
    record Ratio(BigInteger top, BigInteger bottom) {
        static Ratio of(BigInteger top, BigInteger bottom) {
            BigInteger common = top.gcd(bottom);
            BigInteger by = bottom.signum() < 0 ? common.negate() : common;
            return new Ratio(top.divide(by), bottom.divide(by));
        }

        static Ratio of(long whole) {
            return new Ratio(BigInteger.valueOf(whole), BigInteger.ONE);
        }

        Ratio plus(Ratio o) {
            return of(top.multiply(o.bottom).add(o.top.multiply(bottom)), bottom.multiply(o.bottom));
        }

        Ratio less(Ratio o) {
            return plus(o.times(of(-1)));
        }

        Ratio times(Ratio o) {
            return of(top.multiply(o.top), bottom.multiply(o.bottom));
        }

        Ratio by(Ratio o) {
            return of(top.multiply(o.bottom), bottom.multiply(o.top));
        }

        boolean isBelow(Ratio o) {
            return less(o).top.signum() < 0;
        }

        long down() {
            BigInteger[] parts = top.divideAndRemainder(bottom);
            return (parts[1].signum() < 0 ? parts[0].subtract(BigInteger.ONE) : parts[0]).longValueExact();
        }
    }

    record Thing(boolean isTank, long most, long surface, long x, long y, long z) {
    }

    record Row(long displacement, long height, long draft) {
    }

    record Limit(int what, long cut, long low, long high) {
    }

    record Step(boolean isTank, int number, long kg) {
    }

    private final List<Thing> weights = new ArrayList<>();
    private final List<Thing> tanks = new ArrayList<>();
    private List<Long> kgs = new ArrayList<>();
    private List<Long> fillings = new ArrayList<>();
    private final List<Row> rows = new ArrayList<>();
    private final List<Limit> limits = new ArrayList<>();
    private final List<Step> steps = new ArrayList<>();
    private long left = 0;
    private long right = 10000;

    private static boolean out(long n, long low, long high) {
        return n < low || n > high;
    }

    private static boolean noPlace(long n) {
        return out(n, -10000, 10000);
    }

    private static void argument(boolean isWrong) {
        if (isWrong) {
            throw new IllegalArgumentException();
        }
    }

    private static void state(boolean isWrong) {
        if (isWrong) {
            throw new IllegalStateException();
        }
    }

    private static void index(long i, List<?> list) {
        if (i < 0 || i >= list.size()) {
            throw new IndexOutOfBoundsException();
        }
    }

    int weight(long kg, long x, long y, long z) {
        argument(out(kg, -100000, 100000) || kg == 0 || noPlace(x) || noPlace(y) || noPlace(z));
        state(weights.size() == 40);
        weights.add(new Thing(false, 0, 0, x, y, z));
        kgs.add(kg);
        return weights.size() - 1;
    }

    int tank(long most, long surface, long x, long y, long z) {
        argument(out(most, 4, 40000) || (most & 3) != 0 || out(surface, 0, 1000000000));
        argument(noPlace(x) || noPlace(y) || noPlace(z));
        state(tanks.size() == 4);
        tanks.add(new Thing(true, most, surface, x, y, z));
        fillings.add(0L);
        return tanks.size() - 1;
    }

    int filled(int tank, long kg) {
        index(tank, tanks);
        if (out(kg, 0, tanks.get(tank).most)) {
            return 0;
        }
        fillings.set(tank, kg);
        return 1;
    }

    int hydro(long displacement, long height, long draft) {
        argument(out(displacement, 1, 5000000) || noPlace(height) || noPlace(draft));
        argument(!rows.isEmpty() && displacement <= rows.get(rows.size() - 1).displacement);
        state(rows.size() == 12);
        rows.add(new Row(displacement, height, draft));
        return rows.size();
    }

    boolean hull(long l, long r) {
        if (noPlace(l) || noPlace(r) || l >= r) {
            return false;
        }
        left = l;
        right = r;
        return true;
    }

    /** axis 0: 1, so that the sum is D; 1, 2, 3: x, y, z. */
    private long moment(int axis) {
        long sum = 0;
        for (int i = 0; i < weights.size() + tanks.size(); i++) {
            Thing t = thing(i);
            sum += mass(i) * (axis == 0 ? 1 : axis == 1 ? t.x : axis == 2 ? t.y : t.z);
        }
        return sum;
    }

    private Thing thing(int i) {
        return i < weights.size() ? weights.get(i) : tanks.get(i - weights.size());
    }

    private long mass(int i) {
        return i < weights.size() ? kgs.get(i) : fillings.get(i - weights.size());
    }

    private long freeSurface() {
        long sum = 0;
        for (int i = 0; i < tanks.size(); i++) {
            sum += fillings.get(i) == 0 || fillings.get(i) == tanks.get(i).most ? 0 : tanks.get(i).surface;
        }
        return sum;
    }

    private Ratio at(long d, boolean isHeight) {
        Row before = null;
        for (Row row : rows) {
            long here = isHeight ? row.height : row.draft;
            if (d <= row.displacement) {
                if (before == null || d == row.displacement) {
                    return Ratio.of(here);
                }
                long there = isHeight ? before.height : before.draft;
                Ratio way = Ratio.of(d - before.displacement).by(Ratio.of(row.displacement - before.displacement));
                return Ratio.of(there).plus(way.times(Ratio.of(here - there)));
            }
            before = row;
        }
        return before == null ? Ratio.of(0) : Ratio.of(isHeight ? before.height : before.draft);
    }

    private Ratio middle() {
        return Ratio.of(left + right).by(Ratio.of(2));
    }

    private Ratio ratio(int what) {
        long d = moment(0);
        if (what == 0) {
            return Ratio.of(d);
        }
        if (what == 6) {
            return at(d, false);
        }
        if (d == 0) {
            throw new ArithmeticException();
        }
        if (what <= 3) {
            return Ratio.of(moment(what)).by(Ratio.of(d));
        }
        if (what == 7) {
            return Ratio.of(moment(1)).less(Ratio.of(d).times(middle())).by(Ratio.of(d));
        }
        Ratio four = Ratio.of(moment(3) + freeSurface()).by(Ratio.of(d));
        return what == 4 ? four : at(d, true).less(four);
    }

    long value(int what, int side) {
        argument(out(what, 0, 7) || out(side, 0, 2));
        Ratio r = ratio(what);
        return side == 0 ? r.down() : (side == 1 ? r.top : r.bottom).longValueExact();
    }

    private Ratio partAhead(long x) {
        long ahead = Math.min(Math.max(x - left, 0), right - left);
        return Ratio.of(moment(0)).times(Ratio.of(ahead)).by(Ratio.of(right - left));
    }

    long shear(long x) {
        argument(noPlace(x));
        Ratio sum = Ratio.of(0);
        for (int i = 0; i < weights.size() + tanks.size(); i++) {
            if (thing(i).x < x) {
                sum = sum.plus(Ratio.of(mass(i)));
            }
        }
        return sum.less(partAhead(x)).down();
    }

    long bending(long x) {
        argument(noPlace(x));
        Ratio sum = Ratio.of(0);
        for (int i = 0; i < weights.size() + tanks.size(); i++) {
            if (thing(i).x < x) {
                sum = sum.plus(Ratio.of(mass(i)).times(Ratio.of(x - thing(i).x)));
            }
        }
        Ratio arm = x > right ? Ratio.of(x).less(middle()) : Ratio.of(x - left).by(Ratio.of(2));
        return sum.less(partAhead(x).times(arm)).down();
    }

    int limit(int what, long cut, long low, long high) {
        long most = 10000000000000L;
        argument(out(what, 0, 9) || low > high || out(low, -most, most) || out(high, -most, most) || noPlace(cut));
        state(limits.size() == 10);
        limits.add(new Limit(what, cut, low, high));
        return limits.size();
    }

    private boolean isBroken(Limit limit) {
        if (limit.what != 0 && limit.what != 6 && limit.what <= 7 && moment(0) == 0) {
            return true;
        }
        Ratio r = limit.what == 8 ? Ratio.of(shear(limit.cut))
                : limit.what == 9 ? Ratio.of(bending(limit.cut)) : ratio(limit.what);
        return r.isBelow(Ratio.of(limit.low)) || Ratio.of(limit.high).isBelow(r);
    }

    int check() {
        for (int i = 0; i < limits.size(); i++) {
            if (isBroken(limits.get(i))) {
                return i + 1;
            }
        }
        return 0;
    }

    /** The work, then the fillings; null if no pumping keeps the limits. */
    private List<Long> pumping() {
        List<Long> before = fillings;
        List<Long> best = null;
        for (List<Long> way : ways(0)) {
            fillings = way;
            if (check() == 0) {
                List<Long> found = new ArrayList<>();
                long work = 0;
                for (int i = 0; i < way.size(); i++) {
                    work += Math.abs(way.get(i) - before.get(i));
                }
                found.add(work);
                found.addAll(way);
                best = best == null || isAhead(found, best) ? found : best;
            }
        }
        fillings = before;
        return best;
    }

    private static boolean isAhead(List<Long> a, List<Long> b) {
        for (int i = 0; i < a.size(); i++) {
            if (!a.get(i).equals(b.get(i))) {
                return a.get(i) < b.get(i);
            }
        }
        return false;
    }

    /** All fillings of the tanks from the given one on, the fuller ones first. */
    private List<List<Long>> ways(int from) {
        List<List<Long>> all = new ArrayList<>();
        if (from == tanks.size()) {
            all.add(new ArrayList<>());
            return all;
        }
        for (int quarters = 4; quarters >= 0; quarters--) {
            for (List<Long> rest : ways(from + 1)) {
                rest.add(0, tanks.get(from).most * quarters / 4);
                all.add(rest);
            }
        }
        return all;
    }

    long ballast() {
        List<Long> best = pumping();
        return best == null ? -1 : best.get(0);
    }

    long fill(int tank) {
        index(tank, tanks);
        List<Long> best = pumping();
        return best == null ? -1 : best.get(tank + 1);
    }

    int plan(boolean isTank, int number, long kg) {
        index(number, isTank ? tanks : weights);
        argument(isTank ? out(kg, 0, tanks.get(number).most) : out(kg, -100000, 100000));
        state(steps.size() == 20);
        steps.add(new Step(isTank, number, kg));
        return steps.size() - 1;
    }

    int step(int i) {
        index(i, steps);
        List<Long> kgsBefore = kgs;
        List<Long> fillingsBefore = fillings;
        kgs = new ArrayList<>(kgs);
        fillings = new ArrayList<>(fillings);
        for (Step step : steps.subList(0, i + 1)) {
            if (step.isTank) {
                fillings.set(step.number, step.kg);
            } else {
                kgs.set(step.number, kgs.get(step.number) + step.kg);
            }
        }
        int answer = check();
        kgs = kgsBefore;
        fillings = fillingsBefore;
        return answer;
    }

    int broken() {
        for (int i = 0; i < steps.size(); i++) {
            if (step(i) != 0) {
                return i;
            }
        }
        return -1;
    }

    int count(int what) {
        int slack = 0;
        for (int i = 0; i < tanks.size(); i++) {
            slack += fillings.get(i) > 0 && fillings.get(i) < tanks.get(i).most ? 1 : 0;
        }
        return switch (what) {
            case 0 -> weights.size();
            case 1 -> tanks.size();
            case 2 -> rows.size();
            case 3 -> limits.size();
            case 4 -> steps.size();
            case 5 -> slack;
            default -> -1;
        };
    }
}
