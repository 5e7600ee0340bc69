/** Counts answers that are not as due; every test of the project ends through it. */
final class Checks {
    private static final int MOST_SHOWN = 40;

    private final String name;
    private String sentence = "";
    private int done;
    private int wrong;

    Checks(String name) {
        this.name = name;
    }

    /** A test of one sentence of the document: what is not as due in it is told with its words. */
    void sentence(String words, Runnable test) {
        int before = done;
        sentence = " [" + words + "]";
        test.run();
        so("the sentence is checked", done > before);
        sentence = "";
    }

    void due(String call, long got, long want) {
        done++;
        if (got != want) {
            wrong++;
            if (wrong <= MOST_SHOWN) {
                System.out.println(name + sentence + ": " + call + " answered " + got + ", due is " + want);
            }
        }
    }

    void same(String what, String got, String want) {
        so(what + " is " + got + ", due is " + want, got.equals(want));
    }

    void so(String what, boolean so) {
        due(what, so ? 1 : 0, 1);
    }

    boolean anyWrong() {
        return wrong > 0;
    }

    void end() {
        System.out.println(name + ": " + done + " checks, " + wrong + " wrong");
        if (wrong > 0 || done == 0) {
            System.exit(1);
        }
    }
}
