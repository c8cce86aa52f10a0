import java.util.Random;

/** Long runs of calls whose answers are compared with those of the model. */
public final class ModelTest {
    private static final int RUNS = 200;
    private static final int PUMPING_RUNS = 800;
    private static final int LARGEST_RUNS = 120;
    private static final int CALLS = 512;

    private final Due due = new Due();
    private final Random random;
    /** Places and kilograms of a run stay below this, so that small runs often meet edges and ties. */
    private final long size;
    /** Limits of a gentle run are wide or few, so that many pumpings and steps keep them. */
    private final boolean isGentle;
    private final StabilitySums program = new StabilitySums();
    private final Model model = new Model();
    private int compared = 0;
    private int wrong = 0;
    private int pumped = 0;
    private int notPumped = 0;

    private ModelTest(int run) {
        random = new Random(run);
        size = new long[] {2, 10, 100, 10000}[run % 4];
        isGentle = run % 8 >= 4;
    }

    private long number(long low, long high) {
        return low + (long) (random.nextDouble() * (high - low + 1));
    }

    private boolean oneIn(int many) {
        return random.nextInt(many) == 0;
    }

    /** Now and then just at or beyond an edge, or far out. */
    private long edged(long usual, long low, long high) {
        if (!oneIn(25)) {
            return Math.max(low, Math.min(high, usual));
        }
        long[] edges = {low, high, low - 1, high + 1, 0, Long.MIN_VALUE, Long.MAX_VALUE, usual + (1L << 32)};
        return edges[random.nextInt(edges.length)];
    }

    private long place() {
        return edged(number(-size, size), -10000, 10000);
    }

    private int index(int count) {
        return oneIn(15) ? (int) edged(count, 0, count - 1) : (int) number(0, Math.max(0, count - 1));
    }

    private long kg() {
        long most = size == 10000 ? 100000 : size;
        long usual = number(oneIn(4) ? -most : 1, most);
        return edged(usual, -100000, 100000);
    }

    private void same(String text, Due.Call got, Due.Call want) {
        String g = outcome(got);
        String w = outcome(want);
        compared++;
        if (!g.equals(w)) {
            wrong++;
            due.holds("call " + compared + ": " + text + " gave " + g + ", due is " + w, false);
        }
    }

    private static String outcome(Due.Call call) {
        try {
            return Long.toString(call.answer());
        } catch (RuntimeException e) {
            return e.getClass().getName() + (Due.isOfMachine(e) ? " of the machine" : "");
        }
    }

    private void callWeight() {
        long kg = kg();
        long x = place();
        long y = place();
        long z = place();
        same("weight(" + kg + ", " + x + ", " + y + ", " + z + ")",
                () -> program.weight(kg, x, y, z), () -> model.weight(kg, x, y, z));
    }

    private void callTank() {
        long most = oneIn(20) ? edged(number(4, 40000), 4, 40000) : 4 * number(1, size == 10000 ? 10000 : size);
        long surface = edged(size == 10000 ? number(0, 1000000000) : number(0, 3 * size), 0, 1000000000);
        long x = place();
        long y = place();
        long z = place();
        same("tank(" + most + ", " + surface + ", " + x + ", " + y + ", " + z + ")",
                () -> program.tank(most, surface, x, y, z), () -> model.tank(most, surface, x, y, z));
    }

    private void callFilled() {
        int tank = index(model.count(1));
        long kg = edged(number(0, size == 10000 ? 40000 : 4 * size), -1, 40001);
        same("filled(" + tank + ", " + kg + ")", () -> program.filled(tank, kg), () -> model.filled(tank, kg));
    }

    private void callHydro() {
        long most = size == 10000 ? 5000000 : 20 * size;
        long from = model.count(2) * most / 12;
        long displacement = edged(number(from, from + most / 12), 1, 5000000);
        long height = place();
        long draft = place();
        same("hydro(" + displacement + ", " + height + ", " + draft + ")",
                () -> program.hydro(displacement, height, draft), () -> model.hydro(displacement, height, draft));
    }

    private void callHull() {
        long left = place();
        long right = place();
        same("hull(" + left + ", " + right + ")",
                () -> program.hull(left, right) ? 1 : 0, () -> model.hull(left, right) ? 1 : 0);
    }

    private void callValue() {
        int what = (int) edged(number(0, 7), 0, 7);
        int side = (int) edged(number(0, 2), 0, 2);
        same("value(" + what + ", " + side + ")", () -> program.value(what, side), () -> model.value(what, side));
    }

    private void callCut() {
        long x = place();
        same("shear(" + x + ")", () -> program.shear(x), () -> model.shear(x));
        same("bending(" + x + ")", () -> program.bending(x), () -> model.bending(x));
    }

    /** Near what is there, so that limits are now kept and now broken. */
    private void callLimit() {
        int what = (int) edged(number(0, 9), 0, 9);
        long cut = place();
        long here = 0;
        try {
            here = what <= 7 ? model.value(what, 0) : what == 8 ? model.shear(cut) : model.bending(cut);
        } catch (RuntimeException e) {
            here = 0;
        }
        long room = !isGentle && oneIn(2) ? 1 : Math.abs(here) + 20 * size;
        long most = 10000000000000L;
        long low = edged(oneIn(5) ? here : here - number(0, room), -most, most);
        long high = edged(oneIn(5) ? here : here + number(0, room), -most, most);
        same("limit(" + what + ", " + cut + ", " + low + ", " + high + ")",
                () -> program.limit(what, cut, low, high), () -> model.limit(what, cut, low, high));
    }

    private void callPlan() {
        boolean isTank = oneIn(2);
        int number = index(model.count(isTank ? 1 : 0));
        long kg = isTank ? number(-1, size == 10000 ? 40000 : 4 * size) : kg();
        same("plan(" + isTank + ", " + number + ", " + kg + ")",
                () -> program.plan(isTank, number, kg), () -> model.plan(isTank, number, kg));
    }

    private void callStep() {
        int i = index(model.count(4));
        same("step(" + i + ")", () -> program.step(i), () -> model.step(i));
    }

    private void callPumping() {
        long work = model.ballast();
        same("ballast()", program::ballast, () -> work);
        if (model.count(3) > 0) {
            pumped += work > 0 ? 1 : 0;
            notPumped += work < 0 ? 1 : 0;
        }
        int tank = index(model.count(1));
        same("fill(" + tank + ")", () -> program.fill(tank), () -> model.fill(tank));
    }

    private void callCount() {
        int what = (int) edged(number(0, 5), -1, 6);
        same("count(" + what + ")", () -> program.count(what), () -> model.count(what));
    }

    private void call(boolean isYoung) {
        switch (random.nextInt(isYoung ? 14 : 28)) {
            case 0, 1 -> callWeight();
            case 2 -> callTank();
            case 3 -> callFilled();
            case 4 -> callHydro();
            case 5 -> callHull();
            case 6, 7, 8, 9, 14, 15, 16 -> callValue();
            case 10, 17, 18 -> callCut();
            case 11, 19 -> callStep();
            case 12, 20 -> same("check()", program::check, model::check);
            case 13, 21 -> callCount();
            case 22 -> callLimit();
            case 23, 24 -> callPlan();
            case 25, 26 -> same("broken()", program::broken, model::broken);
            default -> {
                if (oneIn(4)) {
                    callPumping();
                }
            }
        }
    }

    /** A ship with some tanks and limits near a setting that the tanks can have. */
    private void pumpingRun() {
        for (int i = random.nextInt(4); i >= 0; i--) {
            callWeight();
            callTank();
        }
        if (oneIn(2)) {
            callHydro();
            callHydro();
        }
        callHull();
        for (int i = 0; i < model.count(1); i++) {
            callFilled();
        }
        for (int i = random.nextInt(3); i >= 0; i--) {
            callLimit();
        }
        for (int i = 0; i < model.count(1); i++) {
            callFilled();
        }
        callPumping();
        for (int i = 0; i < model.count(1); i++) {
            int tank = i;
            same("fill(" + tank + ")", () -> program.fill(tank), () -> model.fill(tank));
        }
    }

    private long nearEnd(long end) {
        return oneIn(2) ? end : end - number(1, 3);
    }

    private long farPlace() {
        return oneIn(2) ? nearEnd(10000) : -nearEnd(10000);
    }

    /** Of one sign for most of a run, so that the sums grow as large as can be. */
    private long farKg(boolean isBelow) {
        long kg = nearEnd(100000);
        return isBelow != oneIn(6) ? -kg : kg;
    }

    /** A ship with all that there can be, all of it near the ends that the document sets. */
    private void largestRun() {
        boolean isBelow = oneIn(4);
        for (int i = 0; i < 40; i++) {
            long kg = farKg(isBelow);
            long x = farPlace();
            long y = farPlace();
            long z = farPlace();
            same("weight(" + kg + ", " + x + ", " + y + ", " + z + ")",
                    () -> program.weight(kg, x, y, z), () -> model.weight(kg, x, y, z));
        }
        for (int i = 0; i < 4; i++) {
            int tank = i;
            long x = farPlace();
            long z = farPlace();
            same("tank", () -> program.tank(40000, 1000000000, x, x, z), () -> model.tank(40000, 1000000000, x, x, z));
            long kg = nearEnd(40000);
            same("filled(" + tank + ", " + kg + ")", () -> program.filled(tank, kg), () -> model.filled(tank, kg));
        }
        for (long displacement : new long[] {number(1, 3), nearEnd(5000000)}) {
            long height = farPlace();
            long draft = farPlace();
            same("hydro(" + displacement + ", " + height + ", " + draft + ")",
                    () -> program.hydro(displacement, height, draft), () -> model.hydro(displacement, height, draft));
        }
        long left = -nearEnd(10000);
        long right = nearEnd(10000);
        same("hull", () -> program.hull(left, right) ? 1 : 0, () -> model.hull(left, right) ? 1 : 0);
        for (int i = 0; i < 20; i++) {
            boolean isTank = oneIn(5);
            int number = (int) number(0, isTank ? 3 : 39);
            long kg = isTank ? nearEnd(40000) : farKg(isBelow);
            same("plan(" + isTank + ", " + number + ", " + kg + ")",
                    () -> program.plan(isTank, number, kg), () -> model.plan(isTank, number, kg));
        }
        looks();
        for (int what = 0; what <= 9; what++) {
            closeLimit(what);
            same("check()", program::check, model::check);
            same("broken()", program::broken, model::broken);
        }
        looks();
    }

    private void looks() {
        for (int i = 0; i < 24; i++) {
            int what = i / 3;
            int side = i % 3;
            same("value(" + what + ", " + side + ")", () -> program.value(what, side), () -> model.value(what, side));
        }
        for (long x : new long[] {-10000, -9999, -9998, -5001, 0, 1, 5000, 9996, 9998, 9999, 10000}) {
            same("shear(" + x + ")", () -> program.shear(x), () -> model.shear(x));
            same("bending(" + x + ")", () -> program.bending(x), () -> model.bending(x));
        }
        for (int i = 0; i < 20; i++) {
            int step = i;
            same("step(" + i + ")", () -> program.step(step), () -> model.step(step));
        }
    }

    /** Holds at first, and at one end by less than 1; far off at the other, so that some steps keep it. */
    private void closeLimit(int what) {
        long cut = farPlace();
        long here = what <= 7 ? model.value(what, 0) : what == 8 ? model.shear(cut) : model.bending(cut);
        long far = 10000000000000L;
        long low = oneIn(2) ? here : -far;
        long high = low == here ? far : here + 1;
        same("limit(" + what + ", " + cut + ", " + low + ", " + high + ")",
                () -> program.limit(what, cut, low, high), () -> model.limit(what, cut, low, high));
    }

    private void run(int run) {
        if (run >= RUNS + PUMPING_RUNS) {
            largestRun();
        } else if (run >= RUNS) {
            pumpingRun();
        } else {
            for (int i = 0; i < CALLS && compared < CALLS - 1; i++) {
                call(i < 40);
            }
        }
    }

    public static void main(String[] args) {
        int compared = 0;
        int pumped = 0;
        int notPumped = 0;
        Due all = new Due();
        for (int run = 0; run < RUNS + PUMPING_RUNS + LARGEST_RUNS; run++) {
            ModelTest test = new ModelTest(run);
            test.run(run);
            compared += test.compared;
            pumped += test.pumped;
            notPumped += test.notPumped;
            all.holds("run " + run + " has " + test.wrong + " wrong answers", test.wrong == 0);
        }
        System.out.println(compared + " calls compared; pumpings with work " + pumped + ", without a way " + notPumped);
        all.holds("too few pumpings to tell", pumped > 200 && notPumped > 200);
        all.end();
    }
}
