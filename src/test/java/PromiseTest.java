/** Each promise of the document: ordinary inputs, the edges that it names, wrong inputs. Worked out by hand. */
public final class PromiseTest {
    private static final int BAD = Bays.BAD, NO = Bays.NO, FULL = Bays.FULL, NONE = Bays.NONE;
    private static final int FAR = Integer.MAX_VALUE, LOW = Integer.MIN_VALUE;
    /** One SHIP with a light chain on shallow ground; by PULL 9 three LINKS hold it, two do not. */
    private static final String SHALLOW = "c1;c1;s0,0,2,1,1,4,20;";
    private static final Checks CHECKS = new Checks("PromiseTest");

    private PromiseTest() { }

    public static void main(String[] args) {
        newObject();
        write();
        wipe();
        faultOfItems();
        faultOfNumbers();
        faultOfTooMany();
        lay();
        links();
        moor();
        weigh();
        hours();
        hoursAshore();
        hoursAtMost();
        undo();
        undoAmongMany();
        undoneAtMost();
        anchor();
        ship();
        hangs();
        lifts();
        hangsRefused();
        wind();
        secondHolds();
        apart();
        fewest();
        tooMuch();
        close();
        all();
        count();
        CHECKS.end();
    }

    private static void due(String call, int got, int want) {
        CHECKS.due(call, got, want);
    }

    private static void tell(ChainLays x, String text) {
        x.wipe();
        Bays.write(x, text);
    }

    private static ChainLays laid(String text) {
        return Bays.laid(text);
    }

    private static void dueFault(String text, int want) {
        ChainLays x = new ChainLays();
        tell(x, text);
        due("fault of " + text, x.fault(), want);
        if (want >= 0) {
            due("lay with a fault " + text, x.lay(), NO);
        }
    }

    private static void dueAnchor(String when, ChainLays x, int s, int which, int[] want) {
        for (int what = 0; what < 3; what++) {
            due("anchor " + s + " " + which + " " + what + " " + when, x.anchor(s, which, what), want[what]);
        }
    }

    private static void dueLie(ChainLays x, int s, int which, int h, int[] want) {
        for (int what = 0; what < 6; what++) {
            due("hangs " + s + " " + which + " " + h + " " + what, x.hangs(s, which, h, what), want[what]);
        }
    }

    private static void newObject() {
        ChainLays x = new ChainLays();
        int[] counts = {10, 3, 0, 0, 0, 72, 0, 0};
        for (int what = 0; what < 8; what++) {
            due("new count " + what, x.count(what), counts[what]);
        }
        int[] depths = {3, 4, 4, 6, 8, 8, 5, 4, 3, 2};
        for (int column = 0; column < 10; column++) {
            due("new depth " + column, new ChainLays().moor(0, column, 0, 1), depths[column]);
        }
        int[][] told = {{2, 3, 20, 2, 3, 4, 200}, {5, 9, 40, 3, 5, 6, 300}, {7, 4, 12, 1, 2, 2, 60}};
        for (int s = 0; s < 3; s++) {
            dueAnchor("new", x, s, 0, told[s]);
            for (int what = 0; what < 4; what++) {
                due("new ship " + s + " " + what, x.ship(s, what), told[s][what + 3]);
            }
        }
        due("new undo", x.undo(), NO);
        due("new fault", x.fault(), NONE);
        due("new lay", x.lay(), NO);
        due("new wipe", x.wipe(), 0);
    }

    private static void write() {
        ChainLays x = new ChainLays();
        due("write 31", x.write(31), BAD);
        due("write 127", x.write(127), BAD);
        due("write far", x.write(FAR), BAD);
        due("write low", x.write(LOW), BAD);
        due("write 65536 and 99", x.write(65536 + 99), BAD);
        due("write 32", x.write(32), 1);
        due("write 126", x.write(126), 2);
        for (int i = 3; i <= 200; i++) {
            due("write", x.write('c'), i);
        }
        due("write the 201st", x.write('c'), FULL);
        due("BAD ahead of FULL", x.write(127), BAD);
        due("letters", x.count(7), 200);
        due("wipe 200", x.wipe(), 200);
        due("write again", x.write('c'), 1);
    }

    private static void wipe() {
        ChainLays x = new ChainLays();
        tell(x, SHALLOW);
        due("wipe", x.wipe(), SHALLOW.length());
        due("wipe empty", x.wipe(), 0);
        due("letters", x.count(7), 0);
        due("fault of none", x.fault(), NONE);
        due("lay none", x.lay(), NO);
        due("the field stays", x.count(0), 10);
    }

    private static void faultOfItems() {
        dueFault("", NONE);
        dueFault("c1;", NONE);
        dueFault("c1", 0);
        dueFault("c", 0);
        dueFault(";", 0);
        dueFault("c1;;", 3);
        dueFault("c1;c2", 3);
        dueFault("c1;c2;s", 6);
        dueFault("c;", 0);
        dueFault("C1;", 0);
        dueFault(" c1;", 0);
        dueFault("c1; c2;", 3);
        dueFault("c 1;", 0);
        dueFault("c-1;", 0);
        dueFault("c+1;", 0);
        dueFault("c1,;", 0);
        dueFault("x1;", 0);
        dueFault("1;", 0);
        dueFault(SHALLOW, NONE);
        dueFault("c1;c1;s0,0,2,1,1,4;", 6);
        dueFault("c1;c1;s0,0,2,1,1,4,20,1;", 6);
        dueFault("c1;c1;s0,0,2,1,1,4,20", 6);
        dueFault("c1;c1;s0,,2,1,1,4,20;", 6);
        dueFault("c1;c1;s0,0,2,1;1,4,20;", 6);
        dueFault("c1;c1;s,0,2,1,1,4,20;", 6);
        dueFault("c1;x;c0;", 3);
    }

    private static void faultOfNumbers() {
        dueFault("c0;", 0);
        dueFault("c20;", NONE);
        dueFault("c21;", 0);
        dueFault("c020;", NONE);
        dueFault("c001;", NONE);
        dueFault("c0001;", 0);
        dueFault("c000;", 0);
        dueFault("c999;", 0);
        String[] least = {"0", "0", "1", "1", "1", "1", "10"};
        String[] most = {"1", "19", "60", "5", "9", "9", "999"};
        String[] below = {"", "", "0", "0", "0", "0", "9"};
        String[] above = {"2", "20", "61", "6", "10", "10", "1000"};
        for (int i = 0; i < 7; i++) {
            dueFault("c1;c1;" + Bays.ship(i, least[i]), NONE);
            dueFault("c1;c1;" + Bays.ship(i, most[i]), NONE);
            dueFault("c1;c1;" + Bays.ship(i, below[i]), 6);
            dueFault("c1;c1;" + Bays.ship(i, above[i]), 6);
        }
        dueFault("c1;" + Bays.ship(0, "1") + "c1;", 3);
        dueFault("c1;" + Bays.ship(0, "0") + "c1;" + Bays.ship(0, "1"), NONE);
        dueFault(Bays.ship(0, "0"), 0);
        dueFault("c1;c1;s00,019,060,005,009,009,010;", NONE);
    }

    private static void faultOfTooMany() {
        dueFault("c1;".repeat(20), NONE);
        dueFault("c1;".repeat(21), 60);
        String one = Bays.ship(0, "0");
        dueFault("c1;" + one.repeat(5), NONE);
        dueFault("c1;" + one.repeat(6), 3 + 5 * one.length());
        dueFault("c1;" + one.repeat(5) + "c1;", NONE);
    }

    private static void lay() {
        ChainLays x = new ChainLays();
        x.moor(1, 0, 0, 7);
        x.hours(3, 20, 1);
        tell(x, "c1;" + Bays.ship(0, "0"));
        due("lay one column", x.lay(), NO);
        tell(x, "c1;c1;");
        due("lay no ship", x.lay(), NO);
        tell(x, "c1;c1;" + Bays.ship(0, "0") + "c");
        due("lay with a fault", x.lay(), NO);
        due("columns stay", x.count(0), 10);
        due("second stays", x.count(4), 1);
        due("hours stay", x.count(2), 3);
        due("changes stay", x.count(6), 2);
        tell(x, "c7;c9;s1,19,60,5,9,8,999;s0,0,1,1,1,1,10;");
        due("lay", x.lay(), 2);
        int[] counts = {2, 2, 0, 0, 0, 61, 0, 41};
        for (int what = 0; what < 8; what++) {
            due("laid count " + what, x.count(what), counts[what]);
        }
        due("laid undo", x.undo(), NO);
        dueAnchor("laid", x, 0, 0, new int[] {1, 19, 60});
        dueAnchor("laid", x, 1, 0, new int[] {0, 0, 1});
        due("third ship", x.ship(2, 0), BAD);
        due("third column", x.moor(0, 2, 0, 1), BAD);
        due("depth", x.moor(0, 1, 0, 1), 9);
        x.hours(24, 20, 0);
        due("lay again", x.lay(), 2);
        dueAnchor("laid again", x, 1, 0, new int[] {0, 0, 1});
        due("none ashore", x.count(3), 0);
        due("no second", x.count(4), 0);
        due("dragged", x.ship(0, 5) + x.ship(1, 5), 0);
        due("hour 0", x.count(2), 0);
        due("none undone", x.count(6), 0);
    }

    private static void links() {
        ChainLays x = new ChainLays();
        due("links", x.links(0, 0, 1), 20);
        due("links 60", x.links(0, 0, 60), 1);
        due("links likewise", x.links(0, 0, 60), 60);
        due("anchor", x.anchor(0, 0, 2), 60);
        due("no second", x.links(0, 1, 5), NO);
        due("links 0", x.links(0, 0, 0), BAD);
        due("links 61", x.links(0, 0, 61), BAD);
        due("ship -1", x.links(-1, 0, 5), BAD);
        due("ship 3", x.links(3, 0, 5), BAD);
        due("anchor 2", x.links(0, 2, 5), BAD);
        due("anchor -1", x.links(0, -1, 5), BAD);
        due("BAD ahead of NO", x.links(0, 1, 61), BAD);
        due("changes", x.count(6), 3);
        x.moor(0, 1, 1, 9);
        due("second", x.links(0, 1, 11), 9);
        due("second now", x.anchor(0, 1, 2), 11);
        due("first stays", x.anchor(0, 0, 2), 60);
        x.hours(24, 20, 0);
        due("ashore", x.ship(0, 4), 1);
        due("links ashore", x.links(0, 0, 5), NO);
        due("second ashore", x.links(0, 1, 5), NO);
        due("BAD ahead of NO ashore", x.links(0, 0, 0), BAD);
    }

    private static void moor() {
        ChainLays x = new ChainLays();
        int[][] wrong = {{-1, 0, 0, 1}, {3, 0, 0, 1}, {0, -1, 0, 1}, {0, 10, 0, 1}, {0, 0, -1, 1},
            {0, 0, 20, 1}, {0, 0, 0, 0}, {0, 0, 0, 61}, {FAR, FAR, FAR, FAR}, {LOW, LOW, LOW, LOW}};
        for (int[] w : wrong) {
            due("moor wrong", x.moor(w[0], w[1], w[2], w[3]), BAD);
        }
        due("nothing changes", x.count(4) + x.count(6), 0);
        due("moor", x.moor(0, 9, 19, 60), 2);
        dueAnchor("moored", x, 0, 1, new int[] {9, 19, 60});
        due("moor again", x.moor(0, 9, 19, 60), NO);
        due("BAD ahead of NO", x.moor(0, 10, 19, 60), BAD);
        due("the first's own cell", x.moor(1, 5, 9, 1), 8);
        due("seconds", x.count(4), 2);
        due("links out", x.count(5), 133);
        x.hours(24, 20, 3);
        due("ashore without one", x.ship(2, 4), 1);
        due("moor ashore", x.moor(2, 0, 0, 1), NO);
    }

    private static void weigh() {
        ChainLays x = new ChainLays();
        due("weigh none", x.weigh(0), NO);
        due("weigh -1", x.weigh(-1), BAD);
        due("weigh 3", x.weigh(3), BAD);
        x.moor(0, 1, 1, 17);
        due("weigh", x.weigh(0), 17);
        due("weigh again", x.weigh(0), NO);
        due("none now", x.anchor(0, 1, 0), NONE);
        due("seconds", x.count(4), 0);
        due("links out", x.count(5), 72);
        due("changes", x.count(6), 2);
        due("moor again", x.moor(0, 2, 2, 18), 4);
        dueAnchor("moored again", x, 0, 1, new int[] {2, 2, 18});
        x.hours(24, 20, 0);
        due("weigh ashore", x.weigh(0), NO);
        due("seconds ashore", x.count(4), 1);
    }

    private static void hours() {
        int[][] wrong = {{0, 1, 1}, {25, 1, 1}, {1, -1, 1}, {1, 21, 1}, {1, 1, -1}, {1, 1, 4}, {LOW, FAR, LOW}};
        ChainLays x = new ChainLays();
        for (int[] w : wrong) {
            due("hours wrong", x.hours(w[0], w[1], w[2]), BAD);
        }
        due("nothing changes", x.count(2) + x.count(6), 0);
        // by WIND 10 the third one alone is dragged
        int[][] to = {{7, 2}, {9, 4}, {7, 6}, {5, 4}};
        for (int side = 0; side < 4; side++) {
            x = new ChainLays();
            due("two hours to " + side, x.hours(2, 10, side), 0);
            dueAnchor("dragged to " + side, x, 2, 0, new int[] {to[side][0], to[side][1], 12});
            due("dragged", x.ship(2, 5), 2);
            dueAnchor("holding", x, 0, 0, new int[] {2, 3, 20});
            due("not dragged", x.ship(0, 5) + x.ship(1, 5), 0);
            due("hours", x.count(2), 2);
        }
        // by WIND 9 COLUMN 8 is shallow enough: 12 LINKS by LIFT 6 rise 30, no more
        x = new ChainLays();
        due("two hours", x.hours(2, 9, 1), 0);
        due("held in the second", x.anchor(2, 0, 0), 8);
        // PULL 4: LIFT 7 on depth 1 (25 less 21 holds it), more on depth 2
        x = laid("c2;c2;c1;c2;s0,0,1,1,1,4,25;");
        due("till it holds", x.hours(24, 2, 1), 0);
        dueAnchor("held", x, 0, 0, new int[] {2, 0, 1});
        due("dragged till it holds", x.ship(0, 5), 2);
        due("hours go on", x.count(2), 24);
        // both ANCHORS go, though one of them lies well
        x = laid("c9;c9;c9;s0,0,1,1,1,4,25;");
        x.moor(0, 1, 5, 1);
        due("second dragged", x.hours(1, 2, 1), 0);
        dueAnchor("second", x, 0, 1, new int[] {2, 5, 1});
        dueAnchor("first", x, 0, 0, new int[] {1, 0, 1});
    }

    private static void hoursAshore() {
        int[][] edges = {{0, 0, 0}, {2, 7, 1}, {1, 19, 2}, {0, 7, 3}};
        for (int[] edge : edges) {
            ChainLays x = laid("c9;c9;c9;s" + edge[0] + "," + edge[1] + ",1,1,1,4,25;s1,9,60,5,1,1,999;");
            due("ashore at " + edge[2], x.hours(2, 2, edge[2]), 1);
            dueAnchor("it stays", x, 0, 0, new int[] {edge[0], edge[1], 1});
            due("is ashore", x.ship(0, 4), 1);
            due("not dragged", x.ship(0, 5), 0);
            due("for good", x.hours(2, 0, 0), 0);
            due("still ashore", x.ship(0, 4), 1);
            due("the other is not", x.ship(1, 4), 0);
            due("hours", x.count(2), 4);
        }
        ChainLays x = laid("c9;c9;c9;s0,0,1,1,1,4,25;");
        x.moor(0, 2, 3, 1);
        due("the second would leave", x.hours(1, 2, 1), 1);
        dueAnchor("first stays", x, 0, 0, new int[] {0, 0, 1});
        dueAnchor("second stays", x, 0, 1, new int[] {2, 3, 1});
        x = laid("c9;c9;c9;s2,0,1,1,1,4,25;");
        x.moor(0, 0, 3, 1);
        due("the first would leave", x.hours(1, 2, 1), 1);
        dueAnchor("second stays", x, 0, 1, new int[] {0, 3, 1});
        x = new ChainLays();
        due("all come ashore", x.hours(24, 20, 1), 3);
        due("none is left", x.hours(24, 20, 1), 0);
    }

    private static void hoursAtMost() {
        ChainLays x = new ChainLays();
        for (int i = 0; i < 41; i++) {
            x.hours(24, 0, 0);
        }
        due("984 hours", x.count(2), 984);
        due("16 more", x.hours(16, 0, 0), NO);
        due("BAD ahead of NO", x.hours(16, 21, 0), BAD);
        due("984 yet", x.count(2), 984);
        due("15 more", x.hours(15, 0, 0), 0);
        due("1 more", x.hours(1, 0, 0), NO);
        due("999 hours", x.count(2), 999);
        due("undo", x.undo(), 5);
        due("984 again", x.count(2), 984);
    }

    private static void undo() {
        ChainLays x = new ChainLays();
        x.links(0, 0, 5);
        due("undo links", x.undo(), 0);
        due("links are back", x.anchor(0, 0, 2), 20);
        x.moor(0, 1, 2, 3);
        x.links(0, 1, 4);
        x.weigh(0);
        due("undo weigh", x.undo(), 2);
        dueAnchor("back", x, 0, 1, new int[] {1, 2, 4});
        due("undo links of the second", x.undo(), 1);
        dueAnchor("back", x, 0, 1, new int[] {1, 2, 3});
        due("undo moor", x.undo(), 0);
        due("no second", x.anchor(0, 1, 0), NONE);
        due("undo none", x.undo(), NO);
        x.hours(2, 10, 1);
        x.hours(24, 20, 2);
        due("all ashore", x.count(3), 3);
        due("undo hours", x.undo(), 1);
        due("none ashore", x.count(3), 0);
        due("hours", x.count(2), 2);
        due("dragged", x.ship(2, 5), 2);
        dueAnchor("dragged", x, 2, 0, new int[] {9, 4, 12});
        due("undo hours", x.undo(), 0);
        dueAnchor("as at first", x, 2, 0, new int[] {7, 4, 12});
        due("not dragged", x.ship(2, 5), 0);
        due("hour 0", x.count(2), 0);
        x.links(0, 0, 20);
        x.hours(1, 0, 0);
        due("nothing becomes another", x.count(6), 2);
        x.links(0, 0, 61);
        x.weigh(0);
        x.hours(0, 0, 0);
        x.moor(0, 99, 0, 1);
        due("refused ones are no changes", x.count(6), 2);
        due("undo", x.undo(), 1);
        due("undo", x.undo(), 0);
    }

    private static void undoAmongMany() {
        String one = "s0,0,60,5,1,1,999;";
        ChainLays x = laid("c1;c9;" + one.repeat(3) + "s1,5,1,1,1,9,10;s1,5,2,1,1,9,10;");
        x.moor(4, 0, 19, 3);
        due("two go down", x.hours(1, 20, 2), 1);
        due("the fourth", x.ship(3, 5), 1);
        due("the fifth is ashore", x.ship(4, 4), 1);
        x.links(0, 0, 9);
        due("undo links", x.undo(), 2);
        due("ashore yet", x.ship(4, 4), 1);
        due("none else", x.count(3), 1);
        dueAnchor("dragged yet", x, 3, 0, new int[] {1, 6, 1});
        due("undo hours", x.undo(), 1);
        due("not ashore", x.ship(4, 4), 0);
        dueAnchor("back", x, 3, 0, new int[] {1, 5, 1});
        dueAnchor("its second", x, 4, 1, new int[] {0, 19, 3});
        due("up again", x.hours(2, 20, 0), 0);
        dueAnchor("first up", x, 4, 0, new int[] {1, 3, 2});
        dueAnchor("second up", x, 4, 1, new int[] {0, 17, 3});
        due("undo hours", x.undo(), 1);
        dueAnchor("first back", x, 4, 0, new int[] {1, 5, 2});
        dueAnchor("second back", x, 4, 1, new int[] {0, 19, 3});
        due("not dragged", x.ship(4, 5), 0);
    }

    private static void undoneAtMost() {
        ChainLays x = new ChainLays();
        for (int n = 1; n <= 9; n++) {
            x.links(0, 0, n);
            due("changes", x.count(6), Math.min(n, 6));
        }
        for (int left = 5; left >= 0; left--) {
            due("undo", x.undo(), left);
            due("links", x.anchor(0, 0, 2), left + 3);
        }
        due("the first three cannot be", x.undo(), NO);
        due("links", x.anchor(0, 0, 2), 3);
        x.links(0, 0, 50);
        due("undo again", x.undo(), 0);
        due("links", x.anchor(0, 0, 2), 3);
        x.links(0, 0, 50);
        tell(x, SHALLOW);
        x.lay();
        due("behind lay", x.undo(), NO);
        due("laid links", x.anchor(0, 0, 2), 2);
    }

    private static void anchor() {
        ChainLays x = new ChainLays();
        int[][] wrong = {{-1, 0, 0}, {3, 0, 0}, {0, -1, 0}, {0, 2, 0}, {0, 0, -1}, {0, 0, 3}, {FAR, FAR, LOW}};
        for (int[] w : wrong) {
            due("anchor wrong", x.anchor(w[0], w[1], w[2]), BAD);
        }
        due("no second", x.anchor(1, 1, 2), NONE);
        due("BAD ahead of NONE", x.anchor(1, 1, 3), BAD);
        x.moor(1, 3, 4, 5);
        x.hours(24, 20, 3);
        due("ashore", x.ship(1, 4), 1);
        // both are dragged three CELLS: the SECOND one is in COLUMN 0 then
        dueAnchor("ashore", x, 1, 0, new int[] {2, 9, 40});
        dueAnchor("ashore", x, 1, 1, new int[] {0, 4, 5});
    }

    private static void ship() {
        ChainLays x = laid("c1;c1;s0,0,60,5,9,8,999;s1,1,1,1,2,3,10;");
        int[] told = {5, 9, 8, 999, 0, 0};
        int[] others = {1, 2, 3, 10, 0, 0};
        for (int what = 0; what < 6; what++) {
            due("ship 0 " + what, x.ship(0, what), told[what]);
            due("ship 1 " + what, x.ship(1, what), others[what]);
        }
        int[][] wrong = {{-1, 0}, {2, 0}, {0, -1}, {0, 6}, {FAR, 0}, {LOW, 0}, {0, FAR}, {0, LOW}};
        for (int[] w : wrong) {
            due("ship wrong", x.ship(w[0], w[1]), BAD);
        }
    }

    private static void hangs() {
        ChainLays x = new ChainLays();
        // by no PULL each LINK rises 10 and runs 0
        dueLie(x, 0, 0, 0, new int[] {4, 16, 160, 0, 200, 0});
        x = laid("c1;c2;s0,0,2,1,1,4,20;");
        // by PULL 3: RISES 3, 6, 7, RUNS 9, 8, 7
        x.links(0, 0, 3);
        dueLie(x, 0, 0, 3, new int[] {3, 0, 24, 0, 20, 0});
        x.links(0, 0, 4);
        dueLie(x, 0, 0, 3, new int[] {3, 1, 34, 0, 20, 0});
        x.links(0, 0, 60);
        dueLie(x, 0, 0, 3, new int[] {3, 57, 594, 0, 20, 0});
        // by PULL 1: the ROOT of 2 is 1, so that a LINK rises 10
        x.links(0, 0, 1);
        dueLie(x, 0, 0, 1, new int[] {1, 0, 0, 0, 20, 0});
        // the SECOND one by its own DEPTH and LINKS: RISES 3, 6, 7, 8, RUNS 9, 8, 7, 6
        x.moor(0, 1, 0, 5);
        dueLie(x, 0, 1, 3, new int[] {4, 1, 40, 0, 20, 0});
        dueLie(x, 0, 1, 0, new int[] {2, 3, 30, 0, 20, 0});
        // by PULL 100 nine LINKS rise 0, eleven 1, the next ones 2; RUNS 10, 9, 9
        x = laid("c1;c2;s0,0,20,1,1,4,20;s1,0,25,1,1,4,20;");
        dueLie(x, 0, 0, 100, new int[] {19, 1, 190, 0, 20, 0});
        dueLie(x, 1, 0, 100, new int[] {25, 0, 234, 0, 20, 0});
        // by PULL 9: RISES 1, 2, 3, 4; WEIGHT 5 by PULL 5: RISES 7, 9, RUNS 7, 4
        x = laid("c1;c1;s0,0,4,1,1,4,20;s0,0,2,5,1,4,20;");
        dueLie(x, 0, 0, 9, new int[] {4, 0, 36, 0, 20, 0});
        dueLie(x, 1, 0, 5, new int[] {2, 0, 11, 0, 20, 0});
        // WEIGHT 2: RISES by PULL 3 are 6, 8, RUNS 8, 6
        x = laid("c1;c2;s0,0,9,2,1,4,20;");
        dueLie(x, 0, 0, 3, new int[] {2, 7, 84, 0, 20, 0});
    }

    private static void lifts() {
        ChainLays x = laid(SHALLOW);
        // RISES 3, 6 are too little; by LIFT 1 they are 6, 7
        dueLie(x, 0, 0, 3, new int[] {2, 0, 15, 1, 17, 0});
        // by PULL 9: LIFT 4 gives 5, 6
        dueLie(x, 0, 0, 9, new int[] {2, 0, 16, 4, 8, 0});
        x.links(0, 0, 1);
        // one LINK must rise 10: h times h no more than 2 v
        dueLie(x, 0, 0, 4, new int[] {1, 0, 0, 7, 0, 0});
        dueLie(x, 0, 0, 44, new int[] {1, 0, 0, 967, 0, 0});
        dueLie(x, 0, 0, 45, new int[] {1, 0, 0, 999, 0, 1});
        dueLie(x, 0, 0, 9999, new int[] {1, 0, 0, 999, 0, 1});
        x.links(0, 0, 2);
        // LIFT 999 is one yet: 10000 by 2000 and 10010 by 2001; by PULL 1734 the first is 4
        dueLie(x, 0, 0, 1733, new int[] {2, 0, 16, 999, 0, 0});
        dueLie(x, 0, 0, 1734, new int[] {2, 0, 0, 999, 0, 1});
        // too short for the DEPTH by any LIFT
        x = laid("c20;c20;s0,0,19,5,1,4,999;");
        dueLie(x, 0, 0, 0, new int[] {19, 0, 0, 999, 0, 1});
        x.links(0, 0, 20);
        dueLie(x, 0, 0, 0, new int[] {20, 0, 0, 0, 999, 0});
        // HOLDING is 0 at least
        x = laid("c1;c1;s0,0,1,1,1,4,21;");
        due("21 less 21", x.hangs(0, 0, 4, 4), 0);
        x = laid("c1;c1;s0,0,1,1,1,4,22;");
        due("22 less 21", x.hangs(0, 0, 4, 4), 1);
        // by PULL 3, LIFT 1: RISES 6, 7, 8 for 20, RUNS 8, 7, 6
        x = laid("c2;c2;s0,0,3,1,1,4,20;");
        dueLie(x, 0, 0, 3, new int[] {3, 0, 21, 1, 17, 0});
    }

    private static void hangsRefused() {
        ChainLays x = new ChainLays();
        int[][] wrong = {{-1, 0, 0, 0}, {3, 0, 0, 0}, {0, -1, 0, 0}, {0, 2, 0, 0}, {0, 0, -1, 0},
            {0, 0, 10000, 0}, {0, 0, 0, -1}, {0, 0, 0, 6}, {0, 0, FAR, 0}, {0, 0, LOW, 0}};
        for (int[] w : wrong) {
            due("hangs wrong", x.hangs(w[0], w[1], w[2], w[3]), BAD);
        }
        due("no second", x.hangs(0, 1, 0, 0), NONE);
        due("BAD ahead of NONE", x.hangs(0, 1, 10000, 0), BAD);
        x.hours(24, 20, 0);
        due("ashore", x.hangs(0, 0, 0, 0), NO);
        due("NO ahead of NONE", x.hangs(0, 1, 0, 0), NO);
        due("BAD ahead of NO", x.hangs(0, 0, 0, 6), BAD);
    }

    private static void wind() {
        ChainLays x = new ChainLays();
        int[] pulls = {0, 1, 6, 13, 24, 37};
        for (int b = 0; b < 6; b++) {
            due("pull by " + b, x.wind(1, b, 0), pulls[b]);
        }
        due("pull by 20", x.wind(1, 20, 0), 600);
        due("swing by 0", x.wind(1, 0, 2), 10 * (40 - 8) + 50);
        int[][] wrong = {{-1, 0, 0}, {3, 0, 0}, {0, -1, 0}, {0, 21, 0}, {0, 0, -1}, {0, 0, 3}, {0, FAR, 0}};
        for (int[] w : wrong) {
            due("wind wrong", x.wind(w[0], w[1], w[2]), BAD);
        }
        // PULL 9 by LIFT 4: a GRIP of 21 leaves 9, one of 20 leaves 8
        x = laid("c1;c1;s0,0,2,1,1,4,21;s1,0,2,1,3,4,20;");
        due("holds by as much", x.wind(0, 3, 1), 1);
        due("holds not by less", x.wind(1, 3, 1), 0);
        due("swing", x.wind(0, 3, 2), 26);
        due("swing", x.wind(1, 3, 2), 46);
        // TAUT HOLDS by PULL 0 and SWINGS by its LENGTH
        x = laid("c20;c20;s0,0,1,1,7,4,20;");
        due("taut by 0", x.wind(0, 0, 1), 1);
        due("taut by 1", x.wind(0, 1, 1), 0);
        due("taut swing", x.wind(0, 0, 2), 70);
        x.hours(1, 20, 0);
        for (int what = 0; what < 3; what++) {
            due("ashore " + what, x.wind(0, 0, what), NO);
        }
        due("BAD ahead of NO", x.wind(0, 0, 3), BAD);
    }

    private static void secondHolds() {
        // by half of 9, cut up to 5, both hold: LIFT 1; by 9 neither does
        ChainLays x = laid("c1;c9;s0,0,2,1,1,4,10;");
        due("alone", x.wind(0, 3, 1), 0);
        x.moor(0, 0, 9, 2);
        due("both by half", x.wind(0, 3, 1), 1);
        due("swing by all of it", x.wind(0, 3, 2), 26);
        x.links(0, 1, 1);
        due("second too short", x.wind(0, 3, 1), 0);
        x.weigh(0);
        x.moor(0, 1, 9, 2);
        due("second too deep", x.wind(0, 3, 1), 0);
        // one LINK by GRIP 25: PULL 4 holds, 5 does not, so that a half of 9 must be cut up
        x = laid("c1;c9;s0,0,1,1,1,4,25;");
        x.moor(0, 0, 0, 1);
        due("cut up", x.wind(0, 3, 1), 0);
        due("by 4", x.wind(0, 2, 1), 1);
        // an even PULL, 8, has 4 for its half
        ChainLays even = laid("c1;c9;s0,0,1,1,1,2,25;");
        even.moor(0, 0, 0, 1);
        due("half of 8", even.wind(0, 4, 0), 8);
        due("not cut up", even.wind(0, 4, 1), 1);
        // one of them by all of it, the other not even by half
        x.links(0, 1, 10);
        due("the second by all", x.wind(0, 3, 1), 1);
        x.links(0, 0, 10);
        x.links(0, 1, 1);
        due("the first by all", x.wind(0, 3, 1), 1);
        x.links(0, 0, 1);
        due("neither", x.wind(0, 3, 1), 0);
    }

    private static void apart() {
        // by no WIND each SWINGS by 10, both together by 20
        int[][] places = {{2, 0, 1}, {1, 0, 0}, {1, 1, 0}, {1, 2, 1}, {0, 2, 1}, {0, 1, 0}, {0, 0, 0}};
        for (int[] place : places) {
            String text = "c1;c1;c1;s0,0,1,1,1,4,25;s" + place[0] + "," + place[1] + ",1,1,1,4,25;";
            ChainLays x = laid(text);
            due("apart " + text, x.apart(0, 1, 0), place[2]);
            due("apart back " + text, x.apart(1, 0, 0), place[2]);
        }
        ChainLays x = laid("c1;c1;c9;s0,0,2,1,1,4,25;s1,19,60,1,9,1,999;s2,5,1,1,1,9,10;");
        int[][] wrong = {{-1, 1, 0}, {3, 1, 0}, {0, -1, 0}, {0, 3, 0}, {0, 0, 0}, {0, 1, -1}, {0, 1, 21}, {FAR, 0, 0}};
        for (int[] w : wrong) {
            due("apart wrong", x.apart(w[0], w[1], w[2]), BAD);
        }
        due("meet", x.apart(1, 2, 20), 0);
        x.hours(24, 2, 2);
        due("one is ashore", x.count(3), 1);
        due("apart from all", x.apart(1, 2, 20), 1);
        due("likewise back", x.apart(2, 1, 20), 1);
        due("the others meet", x.apart(0, 1, 0), 0);
        due("not from itself", x.apart(2, 2, 0), BAD);
        // PULL 9 on two LINKS: SWING 26; the other, by PULL 2, has 10: 36 in all, or 40 in the way
        x = laid("c1;c1;c1;c1;c1;s0,0,2,1,1,4,20;s4,0,1,1,1,1,20;s3,0,1,1,1,1,20;");
        due("40 by 36", x.apart(0, 1, 3), 1);
        due("30 by 36", x.apart(0, 2, 3), 0);
        x.moor(0, 4, 0, 60);
        due("first anchors alone count", x.apart(0, 1, 3), 1);
    }

    private static void fewest() {
        ChainLays x = laid(SHALLOW);
        due("fewest by 0", x.fewest(0, 0), 1);
        due("fewest by 1", x.fewest(0, 1), 1);
        due("fewest by 3", x.fewest(0, 3), 3);
        due("fewest by 5", x.fewest(0, 5), NONE);
        due("links stay", x.anchor(0, 0, 2), 2);
        due("no change", x.count(6), 0);
        x.moor(0, 0, 0, 10);
        due("the second holds it", x.fewest(0, 3), 1);
        x = laid("c1;c1;s0,0,60,1,1,4,10;");
        x.moor(0, 0, 0, 2);
        // both by 5: LIFT 1 on two LINKS, GRIP 10 less 3
        due("fewest with a second", x.fewest(0, 3), 2);
        int[][] wrong = {{-1, 0}, {1, 0}, {0, -1}, {0, 21}, {FAR, 0}, {0, LOW}};
        for (int[] w : wrong) {
            due("fewest wrong", x.fewest(w[0], w[1]), BAD);
        }
        x.hours(1, 20, 0);
        due("ashore", x.fewest(0, 0), NO);
        due("BAD ahead of NO", x.fewest(0, 21), BAD);
        // 400 of 400: the whole GRIP by no LIFT
        due("wants many", laid("c1;c1;s0,0,1,5,1,4,400;").fewest(0, 20), wanted(400, 5, 10));
        due("wants all 60", laid("c14;c1;s0,0,1,1,1,1,100;").fewest(0, 20), wanted(100, 1, 140));
        due("all 60", wanted(100, 1, 140), 60);
        due("wants 61", laid("c16;c1;s0,0,1,1,1,1,90;").fewest(0, 19), NONE);
        due("61", wanted(90, 1, 160), 61);
        due("wants more than there are", laid("c20;c1;s0,0,1,1,1,4,400;").fewest(0, 20), NONE);
    }

    /** By the rule for RISES alone. */
    private static int wanted(int pull, int weight, int depth) {
        int risen = 0;
        int n = 0;
        while (risen < depth) {
            n++;
            risen += (int) (10 * n * weight / Math.floor(Math.hypot(pull, n * weight)));
        }
        return n;
    }

    private static void tooMuch() {
        ChainLays x = laid("c1;c20;s0,0,2,1,1,4,20;s0,0,2,1,1,4,21;s1,0,1,1,1,4,999;s0,0,60,5,1,1,999;");
        due("by 3", x.tooMuch(0), 3);
        due("by 4", x.tooMuch(1), 4);
        due("taut, by any pull", x.tooMuch(2), 1);
        due("by none", x.tooMuch(3), NONE);
        due("-1", x.tooMuch(-1), BAD);
        due("4", x.tooMuch(4), BAD);
        due("far", x.tooMuch(FAR), BAD);
        // AREA 1: by WIND 1 the PULL is cut to 0
        due("pull cut to 0", laid("c20;c20;s0,0,1,1,1,1,999;").tooMuch(0), 2);
        // 399 hold by WIND 19 (361) and not by 20 (400)
        due("20 is told", laid("c1;c1;s0,0,60,5,1,4,399;").tooMuch(0), 20);
        due("400 hold by 20", laid("c1;c1;s0,0,60,5,1,4,400;").tooMuch(0), NONE);
        x.hours(1, 20, 0);
        due("ashore", x.tooMuch(0), NO);
    }

    private static void close() {
        due("alone", laid(SHALLOW).close(0, 0), 60);
        due("alone, holding by none", laid(SHALLOW).close(0, 5), NONE);
        String columns = "c1;".repeat(11);
        // by no WIND: 100 away, the other SWINGS by 10, so that 9 LINKS may be out
        ChainLays x = laid(columns + "s0,0,1,1,1,4,20;s10,0,33,1,1,4,20;");
        due("nine", x.close(1, 0), 9);
        due("links stay", x.anchor(1, 0, 2), 33);
        due("no change", x.count(6), 0);
        due("one", laid(columns + "s0,0,1,1,1,4,20;s2,0,33,1,1,4,20;").close(1, 0), 1);
        due("too near the great one", x.close(0, 0), NONE);
        int[][] wrong = {{-1, 0}, {2, 0}, {0, -1}, {0, 21}, {FAR, 0}, {0, LOW}};
        for (int[] w : wrong) {
            due("close wrong", x.close(w[0], w[1]), BAD);
        }
        // PULL 9: 3 LINKS hold it and SWING 36, 4 SWING 46, 2 SWING 26 and do not hold
        due("three", laid(columns + "s0,0,2,1,1,4,20;s5,0,1,1,1,1,20;").close(0, 3), 3);
        due("as much as both", laid(columns + "s0,0,2,1,1,4,20;s0,5,1,1,1,1,20;").close(0, 3), 3);
        due("two hold not", laid(columns + "s0,0,2,1,1,4,20;s4,0,1,1,1,1,20;").close(0, 3), NONE);
        // of all others the nearest counts; one ASHORE does not
        x = laid(columns + "s0,5,1,1,1,4,20;s10,5,1,1,1,4,20;s10,19,1,1,1,9,10;");
        due("the middle one", x.close(1, 0), 9);
        x.hours(1, 3, 2);
        due("one ashore", x.count(3), 1);
        due("it", x.close(2, 0), NO);
        due("BAD ahead of NO", x.close(2, 21), BAD);
    }

    private static void all() {
        ChainLays x = laid("c1;c1;c1;c9;s0,0,1,1,1,4,25;s1,0,1,1,1,4,25;s2,0,1,1,1,4,25;s3,19,1,1,1,9,10;");
        due("hold by 0", x.all(0, 0), 4);
        due("hold by 2", x.all(2, 0), 3);
        due("hold by 3", x.all(3, 0), 0);
        due("meet by 0", x.all(0, 1), 2);
        due("-1", x.all(-1, 0), BAD);
        due("21", x.all(21, 0), BAD);
        due("what -1", x.all(0, -1), BAD);
        due("what 2", x.all(0, 2), BAD);
        due("ashore", x.hours(1, 2, 2), 1);
        due("ashore none holds", x.all(0, 0), 3);
        x = laid("c1;c1;s0,0,60,1,1,4,25;s0,0,60,1,1,4,25;s0,0,60,1,1,4,25;s0,0,60,1,1,4,25;s0,0,60,1,1,4,25;");
        due("all meet", x.all(0, 1), 10);
        x = laid("c1;c1;s0,0,60,1,1,4,999;s0,0,60,1,1,4,999;s0,0,1,1,1,9,10;");
        due("three meet", x.all(1, 1), 3);
        due("one goes", x.hours(1, 5, 0), 1);
        due("two meet", x.all(1, 1), 1);
    }

    private static void count() {
        ChainLays x = laid("c1;c1;c9;s0,0,7,1,1,4,25;s2,19,1,1,1,9,10;");
        due("moor", x.moor(0, 0, 0, 30), 1);
        due("moor", x.moor(1, 2, 19, 20), 9);
        int[] before = {3, 2, 0, 0, 2, 58, 2, 42};
        for (int what = 0; what < 8; what++) {
            due("count " + what, x.count(what), before[what]);
        }
        due("hours", x.hours(4, 3, 2), 1);
        int[] behind = {3, 2, 4, 1, 2, 37, 3, 42};
        for (int what = 0; what < 8; what++) {
            due("count then " + what, x.count(what), behind[what]);
        }
        due("count -1", x.count(-1), BAD);
        due("count 8", x.count(8), BAD);
        due("count far", x.count(FAR), BAD);
        due("count low", x.count(LOW), BAD);
    }
}
