/** Counts answers that are not as due; every test of the project ends through it. */
final class Checks {
    private static final int MOST_SHOWN = 40;

    private final String name;
    private int done;
    private int wrong;

    Checks(String name) {
        this.name = name;
    }

    void due(String call, long got, long want) {
        done++;
        if (got != want) {
            wrong++;
            if (wrong <= MOST_SHOWN) {
                System.out.println(name + ": " + call + " answered " + got + ", due is " + want);
            }
        }
    }

    void so(String what, boolean so) {
        due(what, so ? 1 : 0, 1);
    }

    boolean anyWrong() {
        return wrong > 0;
    }

    void end() {
        System.out.println(name + ": " + done + " checks, " + wrong + " wrong");
        if (wrong > 0 || done == 0) {
            System.exit(1);
        }
    }
}
