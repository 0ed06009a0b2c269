/** Counts and prints the answers that are not as due. */
final class Due {
    private static final int MOST_PRINTED = 40;
    private int wrong;
    private String about = "";

    void about(String what) {
        about = what;
    }

    void is(String call, long got, long want) {
        if (got != want) {
            wrong++;
            if (wrong <= MOST_PRINTED) {
                System.out.println(about + ": " + call + " answered " + got + ", due is " + want);
            }
        }
    }

    void holds(String what, boolean so) {
        is(what, so ? 1 : 0, 1);
    }

    int wrong() {
        return wrong;
    }

    void end() {
        System.out.println(wrong == 0 ? "all answers are as due" : wrong + " answers are not as due");
        if (wrong != 0) {
            System.exit(1);
        }
    }
}
