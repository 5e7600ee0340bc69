/** Every sentence of the document on rooms, HOURS and what is best that names a boundary: parts 3, 4; 9, 15 to 20. */
public final class RoomEdgesTest {
    private static final int BAD = Bays.BAD, NO = Bays.NO, NONE = Bays.NONE;
    private static final Checks CHECKS = new Checks("RoomEdgesTest");
    /** On DEPTH 9 it is TAUT and is dragged by WIND 2; on DEPTH 1 it HOLDS that: LIFT 7, and 4 are left of 25. */
    private static final String LIGHT = ",1,1,1,4,25;";
    private static final String HEAVY = ",60,5,1,1,999;";
    private static final int UP = 0, RIGHT = 1, DOWN = 2, LEFT = 3;

    private RoomEdgesTest() { }

    public static void main(String[] args) {
        CHECKS.sentence("SWING: REACH of its ANCHOR (the first one) by its PULL, and its LENGTH", RoomEdgesTest::swing);
        CHECKS.sentence("a CELL is 10 wide and long", RoomEdgesTest::cellsByTenths);
        CHECKS.sentence("as much as both SWINGS together .. or more", RoomEdgesTest::asMuchAsBoth);
        CHECKS.sentence("the distance of their first ANCHORS", RoomEdgesTest::firstAnchors);
        CHECKS.sentence("a SIDE (0 row less 1, 1 COLUMN and 1, 2 row and 1, 3 COLUMN less 1)", RoomEdgesTest::sides);
        CHECKS.sentence("all at once", RoomEdgesTest::allAtOnce);
        CHECKS.sentence("each SHIP that does not HOLD is DRAGGED", RoomEdgesTest::draggedOrNot);
        CHECKS.sentence("its ANCHORS go a CELL", RoomEdgesTest::bothGo);
        CHECKS.sentence("ASHORE, if one of them would leave the FIELD", RoomEdgesTest::leaving);
        CHECKS.sentence("they stay then", RoomEdgesTest::theyStay);
        CHECKS.sentence("till they hold", RoomEdgesTest::tillTheyHold);
        CHECKS.sentence("who is ASHORE is so for good", RoomEdgesTest::forGood);
        CHECKS.sentence("HOLDS nothing", RoomEdgesTest::holdsNothing);
        CHECKS.sentence("is APART from all", RoomEdgesTest::apartFromAll);
        CHECKS.sentence("9: n HOURS (1 to 24)", RoomEdgesTest::hoursACall);
        CHECKS.sentence("9: how many SHIPS come to be ASHORE in them", RoomEdgesTest::comeAshore);
        CHECKS.sentence("9: NO: there would be more than 999 HOURS", RoomEdgesTest::hoursAtMost);
        CHECKS.sentence("12: how many CELLS it was DRAGGED", RoomEdgesTest::cellsDragged);
        CHECKS.sentence("15: two unlike SHIPS", RoomEdgesTest::unlike);
        CHECKS.sentence("FEWEST LINKS: the least number (1 to 60)", RoomEdgesTest::fewest);
        CHECKS.sentence("FEWEST: all else as it is", RoomEdgesTest::fewestElse);
        CHECKS.sentence("16: NO: ASHORE; NONE: it does not HOLD by any", RoomEdgesTest::fewestRefused);
        CHECKS.sentence("TOO MUCH: the least WIND (0 to 20)", RoomEdgesTest::tooMuch);
        CHECKS.sentence("17: NO: it is ASHORE; NONE: it HOLDS by all", RoomEdgesTest::tooMuchRefused);
        CHECKS.sentence("CLOSE: the greatest number of LINKS out (1 to 60)", RoomEdgesTest::close);
        CHECKS.sentence("CLOSE: APART from those of all others", RoomEdgesTest::closeToAll);
        CHECKS.sentence("CLOSE: and it HOLDS", RoomEdgesTest::closeHolds);
        CHECKS.sentence("18: NO: the SHIP is ASHORE; NONE", RoomEdgesTest::closeRefused);
        CHECKS.sentence("19: how many SHIPS HOLD", RoomEdgesTest::allHold);
        CHECKS.sentence("19: pairs whose ROOMS are not APART", RoomEdgesTest::allPairs);
        CHECKS.sentence("20: how many", RoomEdgesTest::counts);
        CHECKS.sentence("of all: of five SHIPS", RoomEdgesTest::ofFive);
        CHECKS.sentence("of all: of no more than there are", RoomEdgesTest::ofNoMore);
        CHECKS.sentence("20: SECOND ANCHORS (of those ASHORE, too); LINKS of those not ASHORE", RoomEdgesTest::countsAshore);
        CHECKS.end();
    }

    private static void due(String call, int got, int want) {
        CHECKS.due(call, got, want);
    }

    /** COLUMNS of DEPTH 9, and a light SHIP in each of the CELLS. */
    private static ChainLays deep(int columns, String... cells) {
        StringBuilder text = new StringBuilder("c9;".repeat(columns));
        for (String cell : cells) {
            text.append('s').append(cell).append(LIGHT);
        }
        return Bays.laid(text.toString());
    }

    private static void swing() {
        // by PULL 9: four LINKS run 36, LENGTH 10 to 90
        for (int length = 1; length <= 9; length++) {
            ChainLays x = Bays.laid("c1;c1;s0,0,4,1," + length + ",4,20;");
            due("swing", x.wind(0, 3, 2), 36 + 10 * length);
            // by all of the PULL, and its own LINKS, with a SECOND one, too
            x.moor(0, 1, 0, 60);
            due("swing with a second", x.wind(0, 3, 2), 36 + 10 * length);
        }
        // TAUT: the LENGTH alone
        due("taut", Bays.laid("c20;c1;s0,0,19,1,3,4,20;").wind(0, 0, 2), 30);
        due("just not taut", Bays.laid("c20;c1;s0,0,20,1,3,4,20;").wind(0, 0, 2), 30);
        due("a link on the ground", Bays.laid("c20;c1;s0,0,21,1,3,4,20;").wind(0, 0, 2), 40);
    }

    /** By no WIND the SWINGS are 10 times the LENGTHS: one LINK on DEPTH 1 has no REACH. */
    private static ChainLays pair(String one, int oneLength, String other, int otherLength) {
        return Bays.laid("c1;".repeat(20) + "s" + one + ",1,1," + oneLength + ",1,20;s" + other + ",1,1,"
            + otherLength + ",1,20;");
    }

    private static void cellsByTenths() {
        for (int cells = 1; cells <= 18; cells++) {
            int oneLength = Math.min(9, (cells + 1) / 2);
            int otherLength = Math.max(1, Math.min(9, cells - oneLength));
            int apart = oneLength + otherLength <= cells ? 1 : 0;
            due("columns " + cells, pair("0,5", oneLength, cells + ",5", otherLength).apart(0, 1, 0), apart);
            due("rows " + cells, pair("5,0", oneLength, "5," + cells, otherLength).apart(0, 1, 0), apart);
        }
        due("18 by 17", pair("0,0", 9, "17,0", 9).apart(0, 1, 0), 0);
        due("rows 18 by 17", pair("0,19", 9, "0,2", 9).apart(0, 1, 0), 0);
        due("the same cell", pair("7,7", 1, "7,7", 1).apart(0, 1, 0), 0);
    }

    private static void asMuchAsBoth() {
        // 30 and 40 make 50
        due("50 by 50", pair("0,0", 2, "3,4", 3).apart(0, 1, 0), 1);
        due("50 by 50 back", pair("3,4", 2, "0,0", 3).apart(1, 0, 0), 1);
        due("60 by 50", pair("0,0", 3, "3,4", 3).apart(0, 1, 0), 0);
        // 10 and 10 are less than 20, 20 and 10 more
        due("20 by 14", pair("0,0", 1, "1,1", 1).apart(0, 1, 0), 0);
        due("20 by 22", pair("0,0", 1, "2,1", 1).apart(0, 1, 0), 1);
        // by WIND 3, 60 apart: SWINGS of 25 and 14, 25 and 15, 26 and 15 with both LENGTHS of 10
        String columns = "c1;".repeat(7);
        due("59", Bays.laid(columns + "s0,0,3,1,1,2,99;s6,0,2,4,1,3,99;").apart(0, 1, 3), 1);
        due("60", Bays.laid(columns + "s0,0,3,1,1,2,99;s6,0,2,3,1,3,99;").apart(0, 1, 3), 1);
        due("61", Bays.laid(columns + "s0,0,3,2,1,4,99;s6,0,2,3,1,3,99;").apart(0, 1, 3), 0);
        // 46 and 18 are 64, its square 4096: 50 and 40 make 4100, 60 and 20 make 4000
        due("4100", Bays.laid(columns + "s0,0,4,1,1,4,99;s5,4,2,1,1,1,99;").apart(0, 1, 3), 1);
        due("4000", Bays.laid(columns + "s0,0,4,1,1,4,99;s6,2,2,1,1,1,99;").apart(0, 1, 3), 0);
    }

    private static void firstAnchors() {
        ChainLays x = pair("0,0", 1, "2,0", 1);
        due("apart", x.apart(0, 1, 0), 1);
        x.moor(0, 2, 0, 60);
        x.moor(1, 0, 0, 60);
        due("seconds near", x.apart(0, 1, 0), 1);
        ChainLays y = pair("0,0", 1, "1,0", 1);
        due("not apart", y.apart(0, 1, 0), 0);
        y.moor(0, 19, 19, 1);
        due("seconds far", y.apart(0, 1, 0), 0);
    }

    private static void sides() {
        String[] due = {"5 6 1", "6 7 1", "5 8 1", "4 7 1"};
        for (int side = 0; side < 4; side++) {
            ChainLays x = deep(10, "5,7");
            due("ashore", x.hours(1, 2, side), 0);
            CHECKS.same("to side " + side, Bays.anchor(x, 0, 0), due[side]);
        }
        due("-1", deep(10, "5,7").hours(1, 2, -1), BAD);
        due("4", deep(10, "5,7").hours(1, 2, 4), BAD);
    }

    private static void allAtOnce() {
        ChainLays x = deep(3, "0,5", "1,5", "1,5", "2,5", "1,6");
        due("ashore", x.hours(1, 2, RIGHT), 1);
        String[] due = {"1 5 1", "2 5 1", "2 5 1", "2 5 1", "2 6 1"};
        for (int s = 0; s < 5; s++) {
            CHECKS.same("ship " + s, Bays.anchor(x, s, 0), due[s]);
            due("ashore " + s, x.ship(s, 4), s == 3 ? 1 : 0);
        }
    }

    private static void draggedOrNot() {
        ChainLays x = Bays.laid("c9;c9;c9;s0,5" + LIGHT + "s0,5" + HEAVY);
        x.hours(2, 2, RIGHT);
        CHECKS.same("dragged", Bays.anchor(x, 0, 0), "2 5 1");
        CHECKS.same("holds", Bays.anchor(x, 1, 0), "0 5 60");
        // as much as it HOLDS, and one more: by WIND 20, PULL 400
        ChainLays y = Bays.laid("c1;c1;s0,5,60,5,1,4,400;s0,5,60,5,1,4,399;");
        y.hours(1, 20, DOWN);
        due("400 hold", y.anchor(0, 0, 1), 5);
        due("399 do not", y.anchor(1, 0, 1), 6);
        // TAUT by no PULL
        ChainLays z = deep(2, "0,5");
        z.hours(24, 0, DOWN);
        due("no wind", z.anchor(0, 0, 1), 5);
    }

    private static void bothGo() {
        for (int side = 0; side < 4; side++) {
            ChainLays x = deep(10, "5,7");
            x.moor(0, 2, 17, 1);
            x.hours(2, 2, side);
            int right = side == RIGHT ? 2 : side == LEFT ? -2 : 0;
            int down = side == DOWN ? 2 : side == UP ? -2 : 0;
            CHECKS.same("first", Bays.anchor(x, 0, 0), (5 + right) + " " + (7 + down) + " 1");
            CHECKS.same("second", Bays.anchor(x, 0, 1), (2 + right) + " " + (17 + down) + " 1");
        }
        // one that was weighed goes nowhere: it would be at the shore
        ChainLays x = deep(10, "5,7");
        x.moor(0, 9, 7, 1);
        x.weigh(0);
        due("not ashore", x.hours(1, 2, RIGHT), 0);
        due("gone", x.anchor(0, 0, 0), 6);
    }

    private static void leaving() {
        // a CELL off the edge, then on it, then ASHORE
        String[] cells = {"3,1", "8,5", "3,18", "1,5"};
        for (int side = 0; side < 4; side++) {
            ChainLays x = deep(10, cells[side]);
            due("to the edge", x.hours(1, 2, side), 0);
            due("not ashore", x.ship(0, 4), 0);
            due("over it", x.hours(1, 2, side), 1);
            due("ashore", x.ship(0, 4), 1);
        }
        // along the edge is not over it
        ChainLays along = deep(10, "0,0");
        due("along", along.hours(9, 2, RIGHT), 0);
        due("at the end", along.anchor(0, 0, 0), 9);
        due("down", along.hours(19, 2, DOWN), 0);
        due("at the end", along.anchor(0, 0, 1), 19);
        // 20 COLUMNS
        ChainLays most = deep(20, "0,0");
        due("to the last", most.hours(19, 2, RIGHT), 0);
        due("behind it", most.hours(1, 2, RIGHT), 1);
    }

    private static void theyStay() {
        String[] edge = {"3 0", "9 5", "3 19", "0 5"};
        for (int side = 0; side < 4; side++) {
            String cell = edge[side].replace(' ', ',');
            ChainLays x = deep(10, cell, "5,9", "5,9");
            int column = Integer.parseInt(edge[side].split(" ")[0]);
            int row = Integer.parseInt(edge[side].split(" ")[1]);
            x.moor(1, column, row, 1);
            x.moor(0, 5, 9, 1);
            due("two of them", x.hours(1, 2, side), 2);
            CHECKS.same("first on the edge", Bays.anchor(x, 0, 0) + ", " + Bays.anchor(x, 0, 1), edge[side] + " 1, 5 9 1");
            CHECKS.same("second on the edge", Bays.anchor(x, 1, 0) + ", " + Bays.anchor(x, 1, 1), "5 9 1, " + edge[side] + " 1");
            due("the third is not", x.ship(2, 4), 0);
            due("not dragged", x.ship(0, 5) + x.ship(1, 5), 0);
        }
    }

    private static void tillTheyHold() {
        ChainLays x = Bays.laid("c9;c9;c1;c9;s0,5" + LIGHT);
        due("24 hours", x.hours(24, 2, RIGHT), 0);
        CHECKS.same("on the shallow", Bays.anchor(x, 0, 0), "2 5 1");
        due("two cells", x.ship(0, 5), 2);
        due("all hours passed", x.count(2), 24);
        // more WIND drags it on
        due("more wind", x.hours(24, 3, RIGHT), 1);
        CHECKS.same("at the shore", Bays.anchor(x, 0, 0), "3 5 1");
    }

    private static void forGood() {
        ChainLays x = deep(3, "0,0", "1,10");
        due("ashore", x.hours(1, 2, LEFT), 1);
        for (int side = 0; side < 4; side++) {
            due("calm", x.hours(1, 0, side), 0);
            due("still ashore", x.ship(0, 4), 1);
        }
        due("away from the shore", x.hours(1, 20, RIGHT), 0);
        CHECKS.same("stays", Bays.anchor(x, 0, 0), "0 0 1");
        CHECKS.same("the other goes", Bays.anchor(x, 1, 0), "1 10 1");
        due("not dragged", x.ship(0, 5), 0);
        due("one", x.count(3), 1);
    }

    private static void holdsNothing() {
        ChainLays x = deep(3, "0,0", "1,10");
        due("both by none", x.all(0, 0), 2);
        x.hours(1, 2, LEFT);
        due("one by none", x.all(0, 0), 1);
        due("wind", x.wind(0, 0, 1), NO);
        due("swing", x.wind(0, 0, 2), NO);
    }

    private static void apartFromAll() {
        // three in one CELL; a light one comes ASHORE
        ChainLays x = Bays.laid("c1;c9;s1,0" + HEAVY + "s1,0" + HEAVY + "s1,0" + LIGHT);
        for (int s = 0; s < 3; s++) {
            due("not apart", x.apart(s, (s + 1) % 3, 0), 0);
        }
        due("pairs", x.all(0, 1), 3);
        due("ashore", x.hours(1, 2, UP), 1);
        for (int b = 0; b <= 20; b++) {
            due("it", x.apart(2, 0, b), 1);
            due("back", x.apart(0, 2, b), 1);
            due("the others", x.apart(0, 1, b), 0);
            due("pairs", x.all(b, 1), 1);
        }
        ChainLays y = deep(2, "1,0", "1,0");
        due("both", y.hours(1, 2, UP), 2);
        due("both ashore", y.apart(0, 1, 0), 1);
        due("no pairs", y.all(20, 1), 0);
    }

    private static void hoursACall() {
        for (int n = 1; n <= 24; n++) {
            ChainLays x = deep(20, "0,5");
            due("hours", x.hours(n, 2, RIGHT), n > 19 ? 1 : 0);
            due("column", x.anchor(0, 0, 0), Math.min(n, 19));
            due("hours", x.count(2), n);
        }
        for (int wrong : new int[] {0, -1, 25, Integer.MAX_VALUE, Integer.MIN_VALUE}) {
            ChainLays x = deep(20, "0,5");
            due("hours " + wrong, x.hours(wrong, 2, RIGHT), BAD);
            due("column", x.anchor(0, 0, 0), 0);
            due("hours", x.count(2), 0);
            due("changes", x.count(6), 0);
        }
        due("wind -1", deep(2, "0,0").hours(1, -1, UP), BAD);
        due("wind 21", deep(2, "0,0").hours(1, 21, UP), BAD);
        due("wind 0", deep(2, "0,0").hours(1, 0, UP), 0);
        due("wind 20", deep(2, "0,0").hours(1, 20, UP), 1);
    }

    private static void comeAshore() {
        due("all five", deep(2, "0,0", "1,0", "0,0", "1,0", "0,0").hours(1, 2, UP), 5);
        // in the second, in the third, in the fourth
        ChainLays x = deep(2, "0,1", "0,2", "0,3", "0,9");
        due("three hours", x.hours(3, 2, UP), 2);
        due("two so far", x.count(3), 2);
        due("those ahead count no more", x.hours(1, 2, UP), 1);
        due("three so far", x.count(3), 3);
        due("none", x.hours(1, 2, UP), 0);
        due("nobody moves", x.hours(24, 0, UP), 0);
        due("the last", x.hours(24, 2, UP), 1);
        due("none is left", x.hours(24, 20, UP), 0);
    }

    private static ChainLays hourOf(int hours) {
        ChainLays x = deep(2, "0,10");
        for (int hour = 0; hour + 24 <= hours; hour += 24) {
            x.hours(24, 0, UP);
        }
        if (hours % 24 > 0) {
            x.hours(hours % 24, 0, UP);
        }
        return x;
    }

    private static void hoursAtMost() {
        ChainLays x = hourOf(998);
        due("998", x.count(2), 998);
        due("two more", x.hours(2, 2, UP), NO);
        due("24 more", x.hours(24, 2, UP), NO);
        due("BAD ahead of NO", x.hours(25, 2, UP), BAD);
        due("where it was", x.anchor(0, 0, 1), 10);
        due("998 yet", x.count(2), 998);
        due("one more", x.hours(1, 2, UP), 0);
        due("one cell", x.anchor(0, 0, 1), 9);
        due("999", x.count(2), 999);
        due("then none", x.hours(1, 2, UP), NO);
        due("one cell yet", x.anchor(0, 0, 1), 9);
        due("undo", x.undo(), 5);
        due("998 again", x.count(2), 998);
        due("24 up to 999", hourOf(975).hours(24, 0, UP), 0);
        due("24 up to 1000", hourOf(976).hours(24, 0, UP), NO);
        due("23 up to 999", hourOf(976).hours(23, 0, UP), 0);
        x = Bays.told("c9;c9;s0,0" + LIGHT);
        for (int i = 0; i < 41; i++) {
            x.hours(24, 0, UP);
        }
        due("984 and 16", x.hours(16, 0, UP), NO);
        x.lay();
        due("behind LAID", x.hours(24, 0, UP), 0);
        due("from 0 on", x.count(2), 24);
    }

    private static void cellsDragged() {
        ChainLays x = deep(10, "5,7");
        x.hours(3, 2, RIGHT);
        due("three", x.ship(0, 5), 3);
        x.hours(3, 2, LEFT);
        due("back counts, too", x.ship(0, 5), 6);
        x.hours(5, 0, LEFT);
        due("calm does not", x.ship(0, 5), 6);
        due("to the shore", x.hours(24, 2, UP), 1);
        due("seven, and the last is none", x.ship(0, 5), 13);
        x.hours(5, 20, UP);
        due("ashore none", x.ship(0, 5), 13);
        x.undo();
        x.undo();
        due("undone", x.ship(0, 5), 6);
        // a CELL for both ANCHORS is one
        ChainLays two = deep(10, "5,7");
        two.moor(0, 3, 3, 1);
        two.hours(1, 2, RIGHT);
        due("one", two.ship(0, 5), 1);
    }

    private static void unlike() {
        ChainLays x = deep(3, "0,0", "1,10", "2,0");
        for (int s = 0; s < 3; s++) {
            due("itself", x.apart(s, s, 0), BAD);
            due("none ahead", x.apart(s, -1, 0), BAD);
            due("none behind", x.apart(s, 3, 0), BAD);
            due("none ahead", x.apart(-1, s, 0), BAD);
            due("none behind", x.apart(3, s, 0), BAD);
            due("wind -1", x.apart(s, (s + 1) % 3, -1), BAD);
            due("wind 21", x.apart(s, (s + 1) % 3, 21), BAD);
        }
        due("none twice", x.apart(3, 3, 0), BAD);
        x.hours(1, 2, UP);
        due("itself ashore", x.apart(0, 0, 0), BAD);
        due("BAD ashore", x.apart(0, 1, 21), BAD);
        due("wind 20", x.apart(0, 1, 20), 1);
    }

    /** Plainly by RISES: how many LINKS hang by a PULL without LIFT. */
    private static int hang(int pull, int weight, int depth) {
        int risen = 0;
        int n = 0;
        while (risen < 10 * depth) {
            n++;
            risen += (int) (10 * n * weight / Math.floor(Math.sqrt(pull * pull + n * n * weight * weight)));
        }
        return n;
    }

    private static void fewest() {
        // by PULL 9, GRIP 9, no LIFT is allowed: four LINKS; GRIP 10 likewise; 15: LIFT 2; 21: LIFT 4
        String[] grips = {"10", "14", "15", "20", "21"};
        int[] due = {4, 4, 3, 3, 2};
        for (int i = 0; i < grips.length; i++) {
            due("grip " + grips[i], Bays.laid("c1;c1;" + Bays.ship(6, grips[i])).fewest(0, 3), due[i]);
        }
        due("one by no wind", Bays.laid("c20;c1;s0,0,60,1,1,4,10;").fewest(0, 0), 1);
        // GRIP 100 by PULL 100: no LIFT; 60 on DEPTH 14
        due("60", hang(100, 1, 14), 60);
        due("all 60", Bays.laid("c14;c1;s0,0,1,1,1,1,100;").fewest(0, 20), 60);
        due("61", hang(90, 1, 16), 61);
        due("61 are not told", Bays.laid("c16;c1;s0,0,60,1,1,1,90;").fewest(0, 19), NONE);
    }

    private static void fewestElse() {
        for (String links : new String[] {"1", "2", "60"}) {
            ChainLays x = Bays.laid("c1;c1;" + Bays.ship(2, links));
            due("whatever is out", x.fewest(0, 3), 3);
            due("links stay", x.anchor(0, 0, 2), Integer.parseInt(links));
            due("no change", x.count(6), 0);
        }
        ChainLays x = Bays.laid("c1;c1;s0,0,9,1,1,4,10;");
        due("alone", x.fewest(0, 3), 4);
        x.moor(0, 1, 0, 1);
        due("a second that is no help", x.fewest(0, 3), 4);
        x.links(0, 1, 2);
        due("a second by half", x.fewest(0, 3), 2);
        x.links(0, 1, 4);
        due("a second by all", x.fewest(0, 3), 1);
        due("its links stay", x.anchor(0, 1, 2), 4);
    }

    private static void fewestRefused() {
        ChainLays x = deep(2, "0,0", "0,9");
        due("none", x.fewest(0, 20), NONE);
        x.hours(1, 2, UP);
        due("ashore", x.fewest(0, 0), NO);
        due("NO ahead of NONE", x.fewest(0, 20), NO);
        due("BAD ahead of NO", x.fewest(0, 21), BAD);
        due("BAD ahead of NONE", x.fewest(1, -1), BAD);
        due("no ship", x.fewest(2, 0), BAD);
        due("no ship", x.fewest(-1, 0), BAD);
    }

    private static void tooMuch() {
        // TAUT: AREA 4 by WIND 1 has PULL 1, AREA 1 to 3 none yet
        int[] due = {2, 2, 2, 1, 1, 1, 1, 1, 1};
        for (int area = 1; area <= 9; area++) {
            due("area " + area, Bays.laid("c20;c1;s0,0,1,1,1," + area + ",999;").tooMuch(0), due[area - 1]);
        }
        // without LIFT: GRIP 360 to 400 by PULL 361, 400
        int[][] grips = {{360, 19}, {361, 20}, {399, 20}, {400, NONE}};
        for (int[] g : grips) {
            due("grip " + g[0], Bays.laid("c1;c1;s0,0,60,5,1,4," + g[0] + ";").tooMuch(0), g[1]);
        }
        ChainLays x = Bays.laid("c1;c1;s0,0,2,1,1,4,10;");
        due("alone", x.tooMuch(0), 3);
        x.moor(0, 1, 0, 2);
        due("with a second", x.tooMuch(0), 4);
    }

    private static void tooMuchRefused() {
        ChainLays x = Bays.laid("c9;c9;s0,0" + LIGHT + "s0,0" + HEAVY);
        due("holds by all", x.tooMuch(1), NONE);
        due("by 20, too", x.wind(1, 20, 1), 1);
        due("not by 1", x.tooMuch(0), 1);
        due("no ship", x.tooMuch(2), BAD);
        due("no ship", x.tooMuch(-1), BAD);
        x.hours(1, 2, UP);
        due("ashore", x.tooMuch(0), NO);
        due("the other", x.tooMuch(1), NONE);
    }

    /** On DEPTH 1 by no WIND n LINKS of the second SHIP SWING 10 times n; the other one's SWING is 10. */
    private static ChainLays near(String cell, String links) {
        return Bays.laid("c1;".repeat(20) + "s0,0,1,1,1,4,20;s" + cell + "," + links + ",1,1,4,20;");
    }

    private static void close() {
        due("alone", deep(2, "0,0").close(0, 0), 60);
        for (int column = 2; column < 20; column++) {
            due("column " + column, near(column + ",0", "33").close(1, 0), column - 1);
        }
        due("one", near("2,0", "60").close(1, 0), 1);
        due("none", near("1,0", "1").close(1, 0), NONE);
        due("none in the same cell", near("0,0", "1").close(1, 0), NONE);
        // 50 for 30 and 40
        due("as much as both", near("3,4", "1").close(1, 0), 4);
        ChainLays x = near("9,0", "33");
        due("8", x.close(1, 0), 8);
        due("links stay", x.anchor(1, 0, 2), 33);
        due("no change", x.count(6), 0);
        due("the other by 33", x.close(0, 0), NONE);
        x.links(1, 0, 5);
        due("the other by 5", x.close(0, 0), 4);
        // over DEPTH 20 up to 20 LINKS reach nothing, though 19 are TAUT
        due("deep", Bays.laid("c20;c1;c1;s0,0,1,1,1,4,20;s2,0,1,1,1,4,20;").close(0, 0), 20);
    }

    private static void closeToAll() {
        // 100 and 50 away
        String columns = "c1;".repeat(16);
        ChainLays x = Bays.laid(columns + "s0,0,1,1,1,4,20;s10,0,1,1,1,4,20;s15,0,1,1,1,4,20;");
        due("the middle", x.close(1, 0), 4);
        due("the left", x.close(0, 0), 9);
        due("the right", x.close(2, 0), 4);
        ChainLays y = Bays.laid(columns + "s10,0,1,1,1,4,20;s0,0,1,1,1,4,20;s15,0,1,1,1,4,20;");
        due("the middle told first", y.close(0, 0), 4);
        ChainLays z = Bays.laid(columns + "s15,0,1,1,1,4,20;s0,0,1,1,1,4,20;s10,0,1,1,1,4,20;");
        due("the middle told last", z.close(2, 0), 4);
        // whether the others are APART from one another is nothing to it
        ChainLays w = Bays.laid(columns + "s0,0,1,1,1,4,20;s0,0,1,1,1,4,20;s10,0,1,1,1,4,20;");
        due("two in one cell", w.close(2, 0), 9);
        // one that is ASHORE is nothing to it
        ChainLays v = Bays.laid("c1;".repeat(11) + "s0,0" + LIGHT + "s10,0" + LIGHT + "s10,0,1,1,1,9,10;");
        due("in its cell", v.close(1, 0), NONE);
        due("ashore", v.hours(1, 2, UP), 1);
        due("ashore no more", v.close(1, 0), 9);
    }

    private static void closeHolds() {
        String columns = "c1;".repeat(11);
        // by PULL 9, GRIP 20: 3 LINKS hold and SWING 36, 4 SWING 46, 2 hold not; the other SWINGS 10
        due("46 and 10 by 60", Bays.laid(columns + "s0,0,2,1,1,4,20;s6,0,1,1,1,1,20;").close(0, 3), 4);
        due("36 and 10 by 50", Bays.laid(columns + "s0,0,2,1,1,4,20;s5,0,1,1,1,1,20;").close(0, 3), 3);
        due("26 and 10 by 40", Bays.laid(columns + "s0,0,2,1,1,4,20;s4,0,1,1,1,1,20;").close(0, 3), NONE);
        due("by GRIP 21", Bays.laid(columns + "s0,0,2,1,1,4,21;s4,0,1,1,1,1,20;").close(0, 3), 2);
        // a SECOND one that HOLDS all lets the first have fewer
        ChainLays x = Bays.laid(columns + "s0,0,2,1,1,4,20;s4,0,1,1,1,1,20;");
        x.moor(0, 4, 0, 60);
        due("with a second", x.close(0, 3), 2);
        due("none holds", deep(2, "0,0").close(0, 20), NONE);
    }

    private static void closeRefused() {
        ChainLays x = deep(2, "0,0", "0,9");
        due("none", x.close(0, 20), NONE);
        x.hours(1, 2, UP);
        due("ashore", x.close(0, 0), NO);
        due("NO ahead of NONE", x.close(0, 20), NO);
        due("BAD ahead of NO", x.close(0, 21), BAD);
        due("BAD ahead of NONE", x.close(1, -1), BAD);
        due("no ship", x.close(2, 0), BAD);
        due("no ship", x.close(-1, 0), BAD);
    }

    private static void allHold() {
        ChainLays x = Bays.laid("c1;c9;s0,5" + LIGHT + "s1,5" + LIGHT + "s0,5" + HEAVY + "s0,5,2,1,1,4,21;");
        int[] due = {4, 3, 3, 2, 1};
        for (int b = 0; b < due.length; b++) {
            due("by " + b, x.all(b, 0), due[b]);
        }
        due("by 20", x.all(20, 0), 1);
        due("-1", x.all(-1, 0), BAD);
        due("21", x.all(21, 0), BAD);
        due("what -1", x.all(0, -1), BAD);
        due("what 2", x.all(0, 2), BAD);
        ChainLays none = deep(2, "0,0", "1,0");
        due("none by 1", none.all(1, 0), 0);
        due("ashore", none.hours(1, 1, UP), 2);
        due("none by 0", none.all(0, 0), 0);
        due("BAD ashore", none.all(0, 2), BAD);
    }

    private static void allPairs() {
        String one = "s0,0,1,1,1,4,20;";
        int[] pairs = {0, 1, 3, 6, 10};
        for (int ships = 1; ships <= 5; ships++) {
            due("pairs of " + ships, Bays.laid("c1;c1;" + one.repeat(ships)).all(0, 1), pairs[ships - 1]);
        }
        // a row of five, 10 from one to the next: 20 is as much as both SWINGS
        StringBuilder row = new StringBuilder("c1;c1;");
        for (int s = 0; s < 5; s++) {
            row.append("s0,").append(s).append(",1,1,1,4,20;");
        }
        due("neighbours", Bays.laid(row.toString()).all(0, 1), 4);
        ChainLays apart = near("2,0", "1");
        due("none", apart.all(0, 1), 0);
        apart.links(1, 0, 2);
        due("one", apart.all(0, 1), 1);
    }

    private static void counts() {
        ChainLays x = deep(7, "0,0", "1,5");
        due("-1", x.count(-1), BAD);
        due("8", x.count(8), BAD);
        int letters = 7 * 3 + 2 * (4 + LIGHT.length());
        int[] due = {7, 2, 0, 0, 0, 2, 0, letters};
        for (int what = 0; what < 8; what++) {
            due("count " + what, x.count(what), due[what]);
        }
        x.moor(0, 3, 3, 60);
        x.links(1, 0, 13);
        x.hours(2, 0, UP);
        x.wipe();
        int[] then = {7, 2, 2, 0, 1, 74, 3, 0};
        for (int what = 0; what < 8; what++) {
            due("count then " + what, x.count(what), then[what]);
        }
    }

    private static ChainLays fiveMoored() {
        ChainLays x = deep(3, "0,0", "0,5", "0,9", "2,5", "2,9");
        for (int s = 0; s < 5; s++) {
            x.moor(s, 1, 10, 2 + s);
        }
        return x;
    }

    private static void ofFive() {
        ChainLays x = fiveMoored();
        due("seconds", x.count(4), 5);
        due("links", x.count(5), 5 + 2 + 3 + 4 + 5 + 6);
        due("hold", x.all(0, 0), 5);
        // rows 0, 5, 9 and 5, 9, each SWINGS 10: 40 in the way
        due("pairs", x.all(0, 1), 0);
        for (int s = 0; s < 5; s++) {
            due("next", x.apart(s, (s + 1) % 5, 0), 1);
        }
        // DEPTH 9 by no WIND: 9 LINKS reach nothing; the last has a SHIP 20 away, the first one 50
        due("close of the last", x.close(4, 0), 9);
        due("close of the first", x.close(0, 0), 12);
        due("all ashore", x.hours(24, 20, LEFT), 5);
        due("ashore", x.count(3), 5);
        due("seconds", x.count(4), 5);
        due("links", x.count(5), 0);
        due("hold", x.all(0, 0), 0);
    }

    private static void ofNoMore() {
        ChainLays ashore = fiveMoored();
        ashore.hours(24, 20, LEFT);
        // whether those ahead of LAID are ASHORE or not, they are no more
        for (ChainLays x : new ChainLays[] {fiveMoored(), ashore}) {
            x.wipe();
            Bays.write(x, "c9;c9;s0,0" + LIGHT);
            due("lay", x.lay(), 1);
            int[] due = {2, 1, 0, 0, 0, 1, 0};
            for (int what = 0; what < due.length; what++) {
                due("count " + what, x.count(what), due[what]);
            }
            due("hold", x.all(0, 0), 1);
            due("pairs", x.all(0, 1), 0);
            due("close", x.close(0, 0), 60);
            due("ashore", x.hours(1, 20, LEFT), 1);
        }
    }

    private static void countsAshore() {
        ChainLays x = deep(3, "0,0", "1,9", "2,9");
        x.moor(0, 1, 1, 5);
        x.moor(1, 1, 1, 7);
        due("seconds", x.count(4), 2);
        due("links", x.count(5), 15);
        // the first one is ASHORE at once, the second a row later
        due("one", x.hours(1, 20, UP), 1);
        due("seconds of it, too", x.count(4), 2);
        due("links of it no more", x.count(5), 9);
        due("another", x.hours(1, 20, UP), 1);
        due("ashore", x.count(3), 2);
        due("seconds", x.count(4), 2);
        due("links", x.count(5), 1);
        x.undo();
        x.undo();
        due("undone", x.count(5), 15);
    }
}
