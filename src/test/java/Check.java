/** Counts the answers that are not as due; every test ends with done(). */
final class Check {
    private static int wrong = 0;

    private Check() {
    }

    static void due(String what, long got, long due) {
        if (got != due) {
            wrong++;
            System.out.println(what + " answered " + got + ", due is " + due);
        }
    }

    static void due(String what, boolean got, boolean due) {
        due(what, got ? 1L : 0L, due ? 1L : 0L);
    }

    static void due(String what, String got, String due) {
        if (!got.equals(due)) {
            wrong++;
            System.out.println(what + " answered\n  " + got + ", due is\n  " + due);
        }
    }

    static void done() {
        System.out.println(wrong == 0 ? "all answers are as due" : wrong + " answers are not as due");
        if (wrong != 0) {
            System.exit(1);
        }
    }
}
