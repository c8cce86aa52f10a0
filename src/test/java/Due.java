/** Counts and prints the answers that are not the ones that are due. */
final class Due {
    interface Call {
        long answer();
    }

    private int wrong = 0;
    private int asked = 0;
    private String subject = "";

    /** Words that are put ahead of all that is told from now on. */
    void about(String newSubject) {
        subject = newSubject;
    }

    int asked() {
        return asked;
    }

    void answers(String text, long want, Call call) {
        asked++;
        try {
            long got = call.answer();
            if (got != want) {
                complain(text + " answered " + got + ", due is " + want);
            }
        } catch (RuntimeException e) {
            complain(text + " threw " + e + ", due is " + want);
        }
    }

    /** A division by 0 that the machine itself refuses has the class of a thrown one, but not its text. */
    static boolean isOfMachine(RuntimeException e) {
        return "/ by zero".equals(e.getMessage());
    }

    /** Looks at the very class: an ArrayIndexOutOfBoundsException is no IndexOutOfBoundsException here. */
    void throwing(String text, Class<? extends RuntimeException> want, Call call) {
        asked++;
        try {
            long got = call.answer();
            complain(text + " answered " + got + ", due is " + want.getSimpleName());
        } catch (RuntimeException e) {
            if (e.getClass() != want || isOfMachine(e)) {
                complain(text + " threw " + e + ", due is " + want.getSimpleName());
            }
        }
    }

    void holds(String text, boolean isSo) {
        asked++;
        if (!isSo) {
            complain(text);
        }
    }

    private void complain(String text) {
        wrong++;
        if (wrong <= 50) {
            System.out.println(subject + text);
        }
    }

    void end() {
        System.out.println(asked + " answers looked at, " + wrong + " wrong");
        if (wrong != 0) {
            System.exit(1);
        }
    }
}
