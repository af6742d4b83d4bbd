/** Counts the answers that are not the ones due, and ends a test by them. */
final class Check {
    private static final int MOST_TOLD = 40;
    private final String test;
    private String promise = "";
    private int wrong = 0;
    private int calls = 0;

    Check(String test) {
        this.test = test;
    }

    void promise(String name) {
        promise = name;
    }

    boolean due(String call, long got, long want) {
        calls++;
        if (got == want) {
            return true;
        }
        wrong++;
        if (wrong <= MOST_TOLD) {
            System.out.println(test + ": " + promise + ": " + call + " answered " + got + ", due is " + want);
        }
        return false;
    }

    void holds(String what, boolean is) {
        due(what, is ? 1 : 0, 1);
    }

    void end() {
        System.out.println(test + ": " + calls + " answers, " + wrong + " not as due");
        if (wrong != 0) {
            System.exit(1);
        }
    }
}
