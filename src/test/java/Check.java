/** What the tests share: they compare answers, print each wrong one, and end with exit code 1 if there was one. */
final class Check {
    interface Call {
        void run();
    }

    private static int wrong = 0;
    private static int looked = 0;

    private Check() {
    }

    static void equal(String what, long got, long due) {
        looked++;
        if (got != due) {
            report(what + " answered " + got + ", due is " + due);
        }
    }

    static void equal(String what, double got, double due) {
        looked++;
        if (Double.compare(got, due) != 0) {
            report(what + " answered " + got + ", due is " + due);
        }
    }

    static void equal(String what, boolean got, boolean due) {
        looked++;
        if (got != due) {
            report(what + " answered " + got + ", due is " + due);
        }
    }

    static void equal(String what, String got, String due) {
        looked++;
        if (!got.equals(due)) {
            report(what + " answered " + got + ", due is " + due);
        }
    }

    static void end(String test) {
        System.out.println(test + ": " + looked + " answers looked at, " + wrong + " wrong");
        if (wrong != 0 || looked == 0) {
            System.exit(1);
        }
    }

    /** The plain name, so that what the machine throws is told apart from what the document names. */
    static String nameOfThrown(Call call) {
        try {
            call.run();
        } catch (RuntimeException e) {
            return e.getClass().getSimpleName();
        }
        return "nothing thrown";
    }

    private static void report(String text) {
        wrong++;
        System.out.println(text);
    }
}
