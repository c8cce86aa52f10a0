import java.lang.reflect.InvocationTargetException;
import java.lang.reflect.Method;
import java.util.ArrayList;
import java.util.List;
import java.util.TreeMap;

/** Runs every method that bears a Sentence, each on its own, and names the promise of what is wrong. */
abstract class Boundary {
    static final Class<IllegalArgumentException> ARGUMENT = IllegalArgumentException.class;
    static final Class<IllegalStateException> STATE = IllegalStateException.class;
    static final Class<IndexOutOfBoundsException> INDEX = IndexOutOfBoundsException.class;
    static final Class<ArithmeticException> ARITHMETIC = ArithmeticException.class;

    /** What lies just outside of the places, far outside, and what an int would take for the place 0. */
    static final long[] NO_PLACES = {-10001, 10001, Long.MIN_VALUE, Long.MAX_VALUE, 4294967296L, -4294967296L};
    static final long[] END_PLACES = {-10000, 10000};

    final Due due = new Due();

    void runAll() throws IllegalAccessException {
        TreeMap<String, Method> tests = new TreeMap<>();
        for (Method method : getClass().getDeclaredMethods()) {
            Sentence sentence = method.getAnnotation(Sentence.class);
            if (sentence != null) {
                tests.put(String.format("Promise %2d, %s", sentence.promise(), method.getName()), method);
            }
        }
        for (String name : tests.keySet()) {
            run(name, tests.get(name));
        }
        System.out.println(tests.size() + " sentences");
        due.end();
    }

    private void run(String name, Method test) throws IllegalAccessException {
        String text = test.getAnnotation(Sentence.class).text();
        int before = due.asked();
        due.about(name + " (\"" + text + "\"): ");
        test.setAccessible(true);
        try {
            test.invoke(this);
        } catch (InvocationTargetException e) {
            due.holds("the test ended with " + e.getCause(), false);
        }
        due.holds("the test looks at nothing", due.asked() > before);
    }

    void value(StabilitySums s, String text, int what, long down, long top, long bottom) {
        due.answers(text + ": value(" + what + ", 0)", down, () -> s.value(what, 0));
        due.answers(text + ": value(" + what + ", 1)", top, () -> s.value(what, 1));
        due.answers(text + ": value(" + what + ", 2)", bottom, () -> s.value(what, 2));
    }

    void displacement(StabilitySums s, String text, long want) {
        due.answers(text + ": value(0, 0)", want, () -> s.value(0, 0));
    }

    /** Runs calls that change nothing, and looks whether the ship is as it was. */
    void unchanged(StabilitySums s, Runnable calls) {
        List<String> before = looksOf(s);
        calls.run();
        List<String> after = looksOf(s);
        for (int i = 0; i < before.size(); i++) {
            due.holds("changed " + before.get(i) + " to " + after.get(i), before.get(i).equals(after.get(i)));
        }
    }

    /** All that can be seen of a ship. */
    static List<String> looksOf(StabilitySums s) {
        List<String> looks = new ArrayList<>();
        for (int what = 0; what <= 5; what++) {
            looks.add("count(" + what + ") = " + s.count(what));
        }
        for (int what = 0; what <= 7; what++) {
            for (int side = 0; side <= 2; side++) {
                int w = what;
                int i = side;
                looks.add("value(" + what + ", " + side + ") = " + told(() -> s.value(w, i)));
            }
        }
        for (long x : new long[] {-10000, -3, 0, 1, 4, 5000, 9999, 10000}) {
            looks.add("shear(" + x + ") = " + s.shear(x));
            looks.add("bending(" + x + ") = " + s.bending(x));
        }
        looks.add("check() = " + s.check());
        looks.add("ballast() = " + s.ballast());
        looks.add("broken() = " + s.broken());
        for (int i = 0; i < s.count(1); i++) {
            looks.add("fill(" + i + ") = " + s.fill(i));
        }
        for (int i = 0; i < s.count(4); i++) {
            looks.add("step(" + i + ") = " + s.step(i));
        }
        return looks;
    }

    private static String told(Due.Call call) {
        try {
            return Long.toString(call.answer());
        } catch (RuntimeException e) {
            return e.getClass().getSimpleName();
        }
    }

    /** A ship with something of every kind, and room for more of each. */
    static StabilitySums mixedShip() {
        StabilitySums s = shipWithoutLimits();
        s.limit(0, 0, 40, 60);
        s.limit(8, 1, -40, 40);
        s.limit(9, 4, -100, 300);
        s.plan(true, 0, 8);
        s.plan(false, 1, -20);
        return s;
    }

    static StabilitySums shipWithoutLimits() {
        StabilitySums s = new StabilitySums();
        s.hull(-10, 11);
        s.weight(50, 2, 3, 4);
        s.weight(-7, 5, -1, 2);
        s.tank(8, 30, -3, 1, 1);
        s.tank(12, 40, 4, -2, 6);
        s.filled(0, 3);
        s.filled(1, 12);
        s.hydro(20, 9, 5);
        s.hydro(70, 4, 8);
        return s;
    }
}
