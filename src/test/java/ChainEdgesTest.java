/** Every sentence of the document on how a chain lies and what HOLDS that names a boundary: part 2, 11 to 14. */
public final class ChainEdgesTest {
    private static final int BAD = Bays.BAD, NO = Bays.NO, NONE = Bays.NONE;
    private static final Checks CHECKS = new Checks("ChainEdgesTest");

    private ChainEdgesTest() { }

    public static void main(String[] args) {
        CHECKS.sentence("a DEPTH D is 10 times D", ChainEdgesTest::depthByTenths);
        CHECKS.sentence("a LENGTH L 10 times L", ChainEdgesTest::lengthByTenths);
        CHECKS.sentence("ROOT is the greatest whole number whose square is no more", ChainEdgesTest::root);
        CHECKS.sentence("PULL of a SHIP by WIND b (0 to 20)", ChainEdgesTest::pullByWind);
        CHECKS.sentence("b times b times AREA by 4, cut", ChainEdgesTest::pullCut);
        CHECKS.sentence("its RISE is .., cut", ChainEdgesTest::riseCut);
        CHECKS.sentence("its RUN is the ROOT of 100 less RISE times RISE", ChainEdgesTest::runs);
        CHECKS.sentence("the fewest LINKS k .. the DEPTH or more together", ChainEdgesTest::fewestHang);
        CHECKS.sentence("v of W, 2 W, .. k W (W the WEIGHT)", ChainEdgesTest::weights);
        CHECKS.sentence("the DEPTH of its COLUMN", ChainEdgesTest::ownColumn);
        CHECKS.sentence("if k is no more than its LINKS", ChainEdgesTest::noMoreThanLinks);
        CHECKS.sentence("REACH is 10 times GROUND and RUNS of these k", ChainEdgesTest::reachOnGround);
        CHECKS.sentence("else all its N LINKS hang", ChainEdgesTest::allHang);
        CHECKS.sentence("LIFT is the least u (1 to 999)", ChainEdgesTest::leastLift);
        CHECKS.sentence("it is TAUT, if there is no such u", ChainEdgesTest::taut);
        CHECKS.sentence("HOLDING by h: GRIP less 3 times LIFT, 0 at least", ChainEdgesTest::holding);
        CHECKS.sentence("HOLDING is 0, if it is TAUT", ChainEdgesTest::holdingTaut);
        CHECKS.sentence("HOLDS, if h is no more than its HOLDING", ChainEdgesTest::holdsByAsMuch);
        CHECKS.sentence("by no PULL a TAUT one HOLDS", ChainEdgesTest::holdsByNoPull);
        CHECKS.sentence("if both do by half the PULL", ChainEdgesTest::bothByHalf);
        CHECKS.sentence("half the PULL, cut up", ChainEdgesTest::halfCutUp);
        CHECKS.sentence("or else if one does by all of it", ChainEdgesTest::oneByAll);
        CHECKS.sentence("WEIGHT and GRIP likewise, LINKS of its own", ChainEdgesTest::likewise);
        CHECKS.sentence("11: NONE: it has no SECOND one", ChainEdgesTest::anchorNone);
        CHECKS.sentence("11: COLUMN, row, LINKS", ChainEdgesTest::anchorTold);
        CHECKS.sentence("12: 1 if ASHORE, else 0", ChainEdgesTest::shipTold);
        CHECKS.sentence("12: L as told in THE TEXT, not 10 times it", ChainEdgesTest::lengthAsTold);
        CHECKS.sentence("13: by a PULL h (0 to 9999)", ChainEdgesTest::pullAtMost);
        CHECKS.sentence("13: HANG, its LINKS at most", ChainEdgesTest::hangAtMost);
        CHECKS.sentence("13: 1 if TAUT, else 0", ChainEdgesTest::tautTold);
        CHECKS.sentence("13: NO: it is ASHORE; NONE: no SECOND one", ChainEdgesTest::hangsRefused);
        CHECKS.sentence("14: 1 if it HOLDS, else 0", ChainEdgesTest::windTold);
        CHECKS.sentence("14: NO: it is ASHORE", ChainEdgesTest::windAshore);
        CHECKS.end();
    }

    private static void due(String call, int got, int want) {
        CHECKS.due(call, got, want);
    }

    /** One SHIP over a DEPTH, with LINKS of a WEIGHT; LENGTH 1, AREA 4, GRIP 20. */
    private static ChainLays chain(int depth, int links, int weight) {
        return Bays.laid("c" + depth + ";c1;s0,0," + links + "," + weight + ",1,4,20;");
    }

    /** HANG, GROUND, REACH, LIFT, HOLDING, 1 if TAUT. */
    private static void dueLie(ChainLays x, int h, String want) {
        CHECKS.same("by pull " + h, Bays.lie(x, 0, 0, h), want);
    }

    private static void depthByTenths() {
        // by no PULL a LINK rises 10: as many hang as the DEPTH is told
        for (int depth = 1; depth <= 20; depth++) {
            dueLie(chain(depth, 60, 1), 0, depth + " " + (60 - depth) + " " + 10 * (60 - depth) + " 0 20 0");
            dueLie(chain(depth, depth, 1), 0, depth + " 0 0 0 20 0");
        }
    }

    private static void lengthByTenths() {
        for (int length = 1; length <= 9; length++) {
            ChainLays x = Bays.laid("c1;c1;s0,0,5,1," + length + ",4,20;");
            due("swing", x.wind(0, 0, 2), 40 + 10 * length);
        }
    }

    private static void root() {
        // 8 is one less than a square: 2, so that the first LINK rises 10
        dueLie(chain(1, 60, 2), 2, "1 59 590 0 20 0");
        // 25 is a square: 5, so that it rises 8, not 10
        dueLie(chain(1, 60, 4), 3, "2 58 586 0 20 0");
        // 80 is one less than 81: 8, so that the second rises 10 and runs 0; the first: 40 by 5
        dueLie(chain(1, 60, 4), 4, "2 58 586 0 20 0");
        // 2: 1; 1: 1
        dueLie(chain(1, 60, 1), 1, "1 59 590 0 20 0");
        dueLie(chain(1, 60, 1), 0, "1 59 590 0 20 0");
    }

    private static void pullByWind() {
        ChainLays x = Bays.laid("c1;c1;s0,0,2,1,1,1,20;s0,0,2,1,1,4,20;s0,0,2,1,1,9,20;");
        for (int b = 0; b <= 20; b++) {
            due("by " + b, x.wind(1, b, 0), b * b);
        }
        due("nothing", x.wind(2, 0, 0), 0);
        due("the least of the most", x.wind(0, 20, 0), 100);
        due("the most", x.wind(2, 20, 0), 900);
        due("-1", x.wind(0, -1, 0), BAD);
        due("21", x.wind(0, 21, 0), BAD);
    }

    private static void pullCut() {
        int[][] due = {{1, 1, 0}, {2, 1, 0}, {3, 1, 0}, {4, 1, 1}, {5, 1, 1}, {7, 1, 1}, {8, 1, 2}, {9, 1, 2},
            {1, 2, 1}, {1, 3, 2}, {1, 19, 90}, {3, 19, 270}, {7, 3, 15}, {9, 19, 812}};
        for (int[] d : due) {
            ChainLays x = Bays.laid("c1;c1;s0,0,2,1,1," + d[0] + ",20;");
            due("area " + d[0] + " by " + d[1], x.wind(0, d[1], 0), d[2]);
        }
    }

    private static void riseCut() {
        // by PULL 9: 10 by 9, 20 by 9, 30 by 9, 40 by 9
        dueLie(chain(1, 60, 1), 9, "4 56 596 0 20 0");
        // by PULL 11: 10 by 11 is 0 and runs 10, 20 by 11 is 1, 30 by 11 is 2, 40 by 11 is 3, 50 by 12 is 4
        dueLie(chain(1, 60, 1), 11, "5 55 596 0 20 0");
        // by PULL 3, WEIGHT 3: 7.5 is 7, and runs 7
        dueLie(chain(1, 60, 3), 3, "2 58 587 0 20 0");
    }

    private static void runs() {
        // WEIGHT, PULL, k, RUNS: of RISES (10), (8 10), (7 10), (5 10), (6 8), (7 9), (4 6), (3 6 7),
        // (2 5 6), (1 2 3 4), (0 1 2 3 4)
        int[][] due = {{1, 0, 1, 0}, {4, 3, 2, 6}, {3, 3, 2, 7}, {1, 2, 2, 8}, {2, 3, 2, 14}, {5, 5, 2, 11},
            {2, 5, 2, 17}, {1, 3, 3, 24}, {1, 4, 3, 25}, {1, 9, 4, 36}, {1, 11, 5, 46}};
        for (int[] d : due) {
            dueLie(chain(1, d[2], d[0]), d[1], d[2] + " 0 " + d[3] + " 0 20 0");
        }
    }

    private static void fewestHang() {
        // RISES 4, 6 are as much as the DEPTH
        dueLie(chain(1, 60, 2), 5, "2 58 597 0 20 0");
        // RISES 2, 5, 6, 7 are as much as DEPTH 2; RISES 2, 5, 6 are more than DEPTH 1, and 2, 5 less
        dueLie(chain(2, 60, 2), 8, "4 56 592 0 20 0");
        dueLie(chain(1, 60, 2), 8, "3 57 595 0 20 0");
        // RISES 3, 6 are one less than the DEPTH
        dueLie(chain(1, 60, 1), 3, "3 57 594 0 20 0");
    }

    private static void weights() {
        // by PULL 5: RISES 2 4 6, 4 6, 6 8, 6 8, 7 9
        String[] due = {"3 57 596", "2 58 597", "2 58 594", "2 58 594", "2 58 591"};
        for (int weight = 1; weight <= 5; weight++) {
            dueLie(chain(1, 60, weight), 5, due[weight - 1] + " 0 20 0");
        }
    }

    private static void ownColumn() {
        ChainLays x = Bays.laid("c1;c2;c20;s1,0,30,1,1,4,20;s2,0,30,1,1,4,20;s0,0,30,1,1,4,20;");
        due("depth 2", x.hangs(0, 0, 0, 0), 2);
        due("depth 20", x.hangs(1, 0, 0, 0), 20);
        due("depth 1", x.hangs(2, 0, 0, 0), 1);
        x.moor(0, 2, 0, 25);
        due("the second's", x.hangs(0, 1, 0, 0), 20);
        due("the first's", x.hangs(0, 0, 0, 0), 2);
        // where it is dragged to it hangs by the DEPTH there
        ChainLays dragged = Bays.laid("c1;c2;s0,0,30,1,1,4,10;");
        due("dragged", dragged.hours(1, 20, 1), 0);
        due("deeper", dragged.hangs(0, 0, 0, 0), 2);
    }

    private static void noMoreThanLinks() {
        // by PULL 9 four LINKS of WEIGHT 1 rise 10
        dueLie(chain(1, 5, 1), 9, "4 1 46 0 20 0");
        dueLie(chain(1, 4, 1), 9, "4 0 36 0 20 0");
        dueLie(chain(1, 3, 1), 9, "3 0 26 2 14 0");
        // all 60
        dueLie(chain(20, 60, 1), 0, "20 40 400 0 20 0");
        dueLie(chain(1, 1, 1), 0, "1 0 0 0 20 0");
    }

    private static void reachOnGround() {
        for (int links = 4; links <= 60; links++) {
            dueLie(chain(1, links, 1), 9, "4 " + (links - 4) + " " + (10 * (links - 4) + 36) + " 0 20 0");
        }
    }

    private static void allHang() {
        // by LIFT 1, WEIGHT 1, PULL 3, DEPTH 2: RISES 6, 7, 8, RUNS 8, 7, 6
        dueLie(chain(2, 3, 1), 3, "3 0 21 1 17 0");
        // by LIFT 2, PULL 9: RISES 3, 4, 5, RUNS 9, 9, 8
        dueLie(chain(1, 3, 1), 9, "3 0 26 2 14 0");
        // by LIFT 4, PULL 9: RISES 5, 6, RUNS 8, 8
        dueLie(chain(1, 2, 1), 9, "2 0 16 4 8 0");
        // WEIGHT 2: u and 2, u and 4; by PULL 9, LIFT 2: 40 by 9 and 60 by 10, RUNS 9, 8
        dueLie(chain(1, 2, 2), 9, "2 0 17 2 14 0");
    }

    private static void leastLift() {
        // 1: RISES 6, 7 by PULL 3
        dueLie(chain(1, 2, 1), 3, "2 0 15 1 17 0");
        // one LINK must rise 10: h times h no more than 2 v
        dueLie(chain(1, 1, 1), 2, "1 0 0 1 17 0");
        dueLie(chain(1, 1, 1), 4, "1 0 0 7 0 0");
        // 44 times 44 is 1936: v of 968
        dueLie(chain(1, 1, 1), 44, "1 0 0 967 0 0");
        dueLie(chain(1, 1, 5), 44, "1 0 0 963 0 0");
        // 999: 10000 by 2000 is 5, 10010 by 2001 is 5
        dueLie(chain(1, 2, 1), 1733, "2 0 16 999 0 0");
    }

    private static void taut() {
        // 10000 by 2001 is 4
        dueLie(chain(1, 2, 1), 1734, "2 0 0 999 0 1");
        dueLie(chain(1, 1, 1), 45, "1 0 0 999 0 1");
        // too short to reach up by any LIFT
        dueLie(chain(20, 19, 1), 0, "19 0 0 999 0 1");
        dueLie(chain(20, 20, 1), 0, "20 0 0 0 20 0");
        dueLie(chain(2, 1, 5), 0, "1 0 0 999 0 1");
        dueLie(chain(20, 1, 1), 9999, "1 0 0 999 0 1");
    }

    private static ChainLays gripped(int grip) {
        return Bays.laid("c1;c1;s0,0,2,1,1,4," + grip + ";");
    }

    private static void holding() {
        // by PULL 9 two LINKS have LIFT 4: 12 less
        int[][] due = {{10, 0}, {11, 0}, {12, 0}, {13, 1}, {14, 2}, {20, 8}, {999, 987}};
        for (int[] d : due) {
            due("grip " + d[0], gripped(d[0]).hangs(0, 0, 9, 4), d[1]);
        }
        // no LIFT: all of it, whatever the PULL
        due("all of it", gripped(10).hangs(0, 0, 0, 4), 10);
        due("all of it", gripped(999).hangs(0, 0, 0, 4), 999);
        due("by a great pull", chain(1, 60, 5).hangs(0, 0, 999, 4), 20);
    }

    private static void holdingTaut() {
        ChainLays x = Bays.laid("c20;c1;s0,0,19,5,1,4,999;");
        due("taut", x.hangs(0, 0, 0, 5), 1);
        due("holding", x.hangs(0, 0, 0, 4), 0);
        due("holding", x.hangs(0, 0, 9999, 4), 0);
        due("holds not by the least pull", x.wind(0, 1, 1), 0);
    }

    private static void holdsByAsMuch() {
        // by WIND 3, PULL 9: HOLDING 8, 9, 10
        due("less", gripped(20).wind(0, 3, 1), 0);
        due("as much", gripped(21).wind(0, 3, 1), 1);
        due("more", gripped(22).wind(0, 3, 1), 1);
        // without LIFT: PULL 400 by GRIP 399, 400
        due("399", Bays.laid("c1;c1;s0,0,60,5,1,4,399;").wind(0, 20, 1), 0);
        due("400", Bays.laid("c1;c1;s0,0,60,5,1,4,400;").wind(0, 20, 1), 1);
        // the greatest of all
        due("899", Bays.laid("c1;c1;s0,0,60,5,1,9,899;").wind(0, 20, 1), 0);
        due("900", Bays.laid("c1;c1;s0,0,60,5,1,9,900;").wind(0, 20, 1), 1);
    }

    private static void holdsByNoPull() {
        ChainLays x = Bays.laid("c20;c20;s0,0,1,1,1,1,10;");
        due("taut", x.hangs(0, 0, 0, 5), 1);
        due("by wind 0", x.wind(0, 0, 1), 1);
        due("by a wind whose pull is cut to 0", x.wind(0, 1, 1), 1);
        due("by pull 1", x.wind(0, 2, 1), 0);
        due("not dragged", x.hours(24, 1, 0), 0);
        due("where it was", x.anchor(0, 0, 1), 0);
        x.moor(0, 1, 1, 1);
        due("two of them", x.wind(0, 0, 1), 1);
        due("two of them by 1", x.wind(0, 2, 1), 0);
    }

    /** GRIP 10, PULL 9 by WIND 3, 5 by half: two LINKS on DEPTH 1 have LIFT 1 then and hold 7. */
    private static ChainLays two(int firstLinks, int secondLinks) {
        ChainLays x = Bays.laid("c1;c1;s0,0," + firstLinks + ",1,1,4,10;");
        x.moor(0, 1, 0, secondLinks);
        return x;
    }

    private static void bothByHalf() {
        due("alone", Bays.laid("c1;c1;s0,0,2,1,1,4,10;").wind(0, 3, 1), 0);
        due("both", two(2, 2).wind(0, 3, 1), 1);
        due("the first only", two(2, 1).wind(0, 3, 1), 0);
        due("the second only", two(1, 2).wind(0, 3, 1), 0);
        due("neither", two(1, 1).wind(0, 3, 1), 0);
        ChainLays x = two(2, 2);
        x.weigh(0);
        due("weighed", x.wind(0, 3, 1), 0);
    }

    private static void halfCutUp() {
        // one LINK with GRIP 25 holds PULL 4 (LIFT 7, 4 left), and not 5
        ChainLays odd = Bays.laid("c1;c1;s0,0,1,1,1,4,25;");
        odd.moor(0, 1, 0, 1);
        due("9", odd.wind(0, 3, 0), 9);
        due("5 and 5", odd.wind(0, 3, 1), 0);
        ChainLays even = Bays.laid("c1;c1;s0,0,1,1,1,2,25;");
        even.moor(0, 1, 0, 1);
        due("8", even.wind(0, 4, 0), 8);
        due("4 and 4", even.wind(0, 4, 1), 1);
        // PULL 1 by half is 1, not 0: TAUT ones do not hold it
        ChainLays least = Bays.laid("c20;c20;s0,0,1,1,1,4,25;");
        least.moor(0, 1, 0, 1);
        due("1", least.wind(0, 1, 0), 1);
        due("1 and 1", least.wind(0, 1, 1), 0);
    }

    private static void oneByAll() {
        // four LINKS have no LIFT by PULL 9 and hold 10; one does not even by half
        due("the first", two(4, 1).wind(0, 3, 1), 1);
        due("the second", two(1, 4).wind(0, 3, 1), 1);
        due("both", two(4, 4).wind(0, 3, 1), 1);
        // PULL 12 by WIND 7, AREA 1 is more than GRIP 10
        ChainLays x = Bays.laid("c1;c1;s0,0,60,1,1,1,10;");
        due("12", x.wind(0, 7, 0), 12);
        due("alone", x.wind(0, 7, 1), 0);
        x.moor(0, 1, 0, 60);
        due("6 and 6", x.wind(0, 7, 1), 1);
        x.links(0, 1, 1);
        due("the second too short", x.wind(0, 7, 1), 0);
    }

    private static void likewise() {
        // WEIGHT 2 by PULL 5: RISES 4, 6; GRIP 20; two LINKS each, and five
        ChainLays x = Bays.laid("c1;c2;s0,0,2,2,1,4,20;");
        x.moor(0, 0, 5, 5);
        CHECKS.same("the first", Bays.lie(x, 0, 0, 5), "2 0 17 0 20 0");
        CHECKS.same("the second", Bays.lie(x, 0, 1, 5), "2 3 47 0 20 0");
        x.links(0, 1, 1);
        CHECKS.same("its own links", Bays.lie(x, 0, 1, 5), "1 0 0 11 0 0");
        CHECKS.same("the first stays", Bays.lie(x, 0, 0, 5), "2 0 17 0 20 0");
        x.weigh(0);
        x.moor(0, 1, 5, 4);
        // DEPTH 2: RISES 4, 6, 8, 8, RUNS 9, 8, 6, 6
        CHECKS.same("its own depth", Bays.lie(x, 0, 1, 5), "4 0 29 0 20 0");
    }

    private static void anchorNone() {
        ChainLays x = new ChainLays();
        for (int what = 0; what < 3; what++) {
            due("no second", x.anchor(0, 1, what), NONE);
        }
        due("BAD ahead of NONE", x.anchor(0, 1, 3), BAD);
        due("BAD ahead of NONE", x.anchor(0, 1, -1), BAD);
        due("BAD ahead of NONE", x.anchor(3, 1, 0), BAD);
        x.moor(0, 8, 3, 30);
        CHECKS.same("moored", Bays.anchor(x, 0, 1), "8 3 30");
        CHECKS.same("the others have none", Bays.anchor(x, 1, 1), "-4 -4 -4");
        x.weigh(0);
        CHECKS.same("weighed", Bays.anchor(x, 0, 1), "-4 -4 -4");
    }

    private static void anchorTold() {
        ChainLays x = new ChainLays();
        due("what -1", x.anchor(0, 0, -1), BAD);
        due("what 3", x.anchor(0, 0, 3), BAD);
        due("anchor -1", x.anchor(0, -1, 0), BAD);
        due("anchor 2", x.anchor(0, 2, 0), BAD);
        due("ship -1", x.anchor(-1, 0, 0), BAD);
        due("ship 3", x.anchor(3, 0, 0), BAD);
        x.moor(0, 0, 0, 1);
        x.moor(1, 9, 19, 60);
        CHECKS.same("the least", Bays.anchor(x, 0, 1), "0 0 1");
        CHECKS.same("the most", Bays.anchor(x, 1, 1), "9 19 60");
        x.hours(24, 20, 3);
        due("ashore", x.ship(0, 4), 1);
        CHECKS.same("told ashore, too", Bays.anchor(x, 0, 0) + ", " + Bays.anchor(x, 0, 1), "2 3 20, 0 0 1");
    }

    private static void shipTold() {
        ChainLays x = new ChainLays();
        for (int s = 0; s < 3; s++) {
            due("not ashore", x.ship(s, 4), 0);
            due("not dragged", x.ship(s, 5), 0);
        }
        due("what -1", x.ship(0, -1), BAD);
        due("what 6", x.ship(0, 6), BAD);
        x.hours(24, 20, 1);
        for (int s = 0; s < 3; s++) {
            due("ashore", x.ship(s, 4), 1);
        }
        CHECKS.same("dragged", x.ship(0, 5) + " " + x.ship(1, 5) + " " + x.ship(2, 5), "7 4 2");
        CHECKS.same("all else", x.ship(1, 0) + " " + x.ship(1, 1) + " " + x.ship(1, 2) + " " + x.ship(1, 3), "3 5 6 300");
    }

    private static void lengthAsTold() {
        for (int length = 1; length <= 9; length++) {
            due("length", Bays.laid("c1;c1;" + Bays.ship(4, "" + length)).ship(0, 1), length);
        }
    }

    private static void pullAtMost() {
        ChainLays x = chain(1, 60, 5);
        due("-1", x.hangs(0, 0, -1, 0), BAD);
        due("10000", x.hangs(0, 0, 10000, 0), BAD);
        dueLie(x, 0, "1 59 590 0 20 0");
        // v of 1005 is the least whose RISE is 1: the last ten LINKS by LIFT 750; fifty run 10
        dueLie(x, 9999, "60 0 590 750 0 0");
    }

    private static void hangAtMost() {
        // four would hang by PULL 9
        int[] due = {1, 2, 3, 4, 4, 4};
        for (int links = 1; links <= 6; links++) {
            due("links " + links, chain(1, links, 1).hangs(0, 0, 9, 0), due[links - 1]);
        }
        due("taut", chain(20, 7, 1).hangs(0, 0, 0, 0), 7);
    }

    private static void tautTold() {
        due("what -1", chain(1, 1, 1).hangs(0, 0, 0, -1), BAD);
        due("what 6", chain(1, 1, 1).hangs(0, 0, 0, 6), BAD);
        due("44", chain(1, 1, 1).hangs(0, 0, 44, 5), 0);
        due("45", chain(1, 1, 1).hangs(0, 0, 45, 5), 1);
        ChainLays x = chain(1, 1, 1);
        due("asked for one", x.hangs(0, 0, 45, 5), 1);
        due("then for the other", x.hangs(0, 0, 44, 5), 0);
    }

    private static void hangsRefused() {
        ChainLays x = new ChainLays();
        for (int what = 0; what < 6; what++) {
            due("no second", x.hangs(0, 1, 0, what), NONE);
        }
        due("BAD ahead of NONE", x.hangs(0, 1, -1, 0), BAD);
        due("BAD ahead of NONE", x.hangs(0, 1, 0, 6), BAD);
        x.moor(0, 1, 1, 1);
        x.hours(24, 20, 3);
        for (int what = 0; what < 6; what++) {
            due("ashore", x.hangs(0, 0, 0, what), NO);
            due("ashore, its second", x.hangs(0, 1, 0, what), NO);
            due("NO ahead of NONE", x.hangs(1, 1, 0, what), NO);
        }
        due("BAD ahead of NO", x.hangs(0, 0, 10000, 0), BAD);
        due("BAD ahead of NO", x.hangs(1, 2, 0, 0), BAD);
    }

    private static void windTold() {
        ChainLays x = new ChainLays();
        due("holds", x.wind(2, 8, 1), 1);
        due("holds not", x.wind(2, 9, 1), 0);
        due("what -1", x.wind(0, 0, -1), BAD);
        due("what 3", x.wind(0, 0, 3), BAD);
        due("by 20", x.wind(0, 20, 1), 0);
        due("by 0", x.wind(0, 0, 1), 1);
    }

    private static void windAshore() {
        ChainLays x = new ChainLays();
        due("one", x.hours(3, 10, 1), 1);
        for (int what = 0; what < 3; what++) {
            due("ashore", x.wind(2, 0, what), NO);
            CHECKS.so("not ashore", x.wind(0, 0, what) >= 0);
        }
        due("BAD ahead of NO", x.wind(2, 21, 0), BAD);
        due("BAD ahead of NO", x.wind(2, 0, 3), BAD);
    }
}
