/** Every sentence of the document on THE TEXT, FAULT and LAID that names a boundary: Terms, promises 1 to 5. */
public final class TextEdgesTest {
    private static final int BAD = Bays.BAD, NO = Bays.NO, FULL = Bays.FULL, NONE = Bays.NONE;
    private static final Checks CHECKS = new Checks("TextEdgesTest");
    private static final String TWO = "c1;c1;";
    /** The longest that tells no zeros ahead: 180 letters. */
    private static final String LONGEST = "c20;".repeat(20) + "s19,19,60,5,9,9,999;".repeat(5);

    private TextEdgesTest() { }

    public static void main(String[] args) {
        CHECKS.sentence("COLUMNS 0 to c - 1 (c 2 to 20)", TextEdgesTest::columns);
        CHECKS.sentence("rows 0 to 19 each", () -> numberOfShip(1, 0, 19));
        CHECKS.sentence("a COLUMN has a DEPTH of 1 to 20", TextEdgesTest::depths);
        CHECKS.sentence("used for at most 512 calls", TextEdgesTest::fiveHundredTwelfthCall);
        CHECKS.sentence("SHIPS are 0, 1, .. (5 at most)", TextEdgesTest::ships);
        CHECKS.sentence("an ANCHOR in a CELL", TextEdgesTest::corners);
        CHECKS.sentence("LINKS out (1 to 60)", () -> numberOfShip(2, 1, 60));
        CHECKS.sentence("the WEIGHT of a LINK (1 to 5)", () -> numberOfShip(3, 1, 5));
        CHECKS.sentence("a LENGTH (1 to 9)", () -> numberOfShip(4, 1, 9));
        CHECKS.sentence("an AREA (1 to 9)", () -> numberOfShip(5, 1, 9));
        CHECKS.sentence("a GRIP (10 to 999)", () -> numberOfShip(6, 10, 999));
        CHECKS.sentence("THE TEXT is letters (200 at most)", TextEdgesTest::longest);
        CHECKS.sentence("ITEMS one behind the other", TextEdgesTest::itemsOnly);
        CHECKS.sentence("a ; behind each", TextEdgesTest::semicolons);
        CHECKS.sentence("sX,Y,N,W,L,A,G", TextEdgesTest::commas);
        CHECKS.sentence("numbers have one to three figures", TextEdgesTest::figures);
        CHECKS.sentence("figures are 0 to 9", TextEdgesTest::figuresAlone);
        CHECKS.sentence("its ANCHOR in COLUMN X (told ahead)", TextEdgesTest::toldAhead);
        CHECKS.sentence("FAULT: the place (from 0 on) of the first letter", TextEdgesTest::firstLetter);
        CHECKS.sentence("of the first ITEM that is not so", TextEdgesTest::firstFault);
        CHECKS.sentence("or is one too many", TextEdgesTest::tooMany);
        CHECKS.sentence("LAID is a TEXT without FAULT", TextEdgesTest::laidWithoutFault);
        CHECKS.sentence("with two COLUMNS at least (NO else)", TextEdgesTest::laidByColumns);
        CHECKS.sentence("with a SHIP at least (NO else)", TextEdgesTest::laidByShips);
        CHECKS.sentence("at first c3;c4;..", TextEdgesTest::atFirst);
        CHECKS.sentence("HOUR 0, nobody is ASHORE, no SECOND anchors", TextEdgesTest::laidAnew);
        CHECKS.sentence("LAID, THE TEXT stays", TextEdgesTest::textStays);
        CHECKS.sentence("1: THE TEXT is empty", TextEdgesTest::emptyAtFirst);
        CHECKS.sentence("2: a letter (32 to 126, as in ASCII)", TextEdgesTest::letters);
        CHECKS.sentence("2: how long it is", TextEdgesTest::howLong);
        CHECKS.sentence("2: FULL: it has 200", TextEdgesTest::full);
        CHECKS.sentence("3: THE TEXT is empty: how long it was", TextEdgesTest::wiped);
        CHECKS.sentence("4: FAULT. NONE.", TextEdgesTest::noFault);
        CHECKS.sentence("5: LAID: how many SHIPS. NO.", TextEdgesTest::howManyShips);
        CHECKS.end();
    }

    private static void due(String call, int got, int want) {
        CHECKS.due(call, got, want);
    }

    /** A text without FAULT leaves the answer of lay to its own tests. */
    private static void dueFault(String text, int want) {
        ChainLays x = Bays.told(text);
        due("fault of " + text, x.fault(), want);
        if (want != NONE) {
            due("lay of " + text, x.lay(), NO);
        }
    }

    private static void columns() {
        ChainLays two = Bays.laid("c3;c7;" + Bays.ship(0, "1"));
        due("two", two.count(0), 2);
        due("the first", two.moor(0, 0, 0, 1), 3);
        due("the anchor in the last", two.anchor(0, 0, 0), 1);
        two.weigh(0);
        due("the last", two.moor(0, 1, 0, 1), 7);
        two.weigh(0);
        due("behind the last", two.moor(0, 2, 0, 1), BAD);
        ChainLays most = Bays.laid("c1;".repeat(19) + "c9;" + Bays.ship(0, "19"));
        due("twenty", most.count(0), 20);
        due("the anchor in the last", most.anchor(0, 0, 0), 19);
        due("behind the twentieth", most.moor(0, 20, 0, 1), BAD);
        due("the twentieth", most.moor(0, 19, 0, 1), 9);
        dueFault("c1;".repeat(21) + Bays.ship(0, "0"), 60);
        due("one", Bays.told("c1;" + Bays.ship(0, "0")).lay(), NO);
    }

    private static int read(ChainLays x, int number) {
        return number < 3 ? x.anchor(0, 0, number) : x.ship(0, number - 3);
    }

    private static void numberOfShip(int number, int least, int most) {
        for (int n : new int[] {least, least + 1, most - 1, most}) {
            String text = TWO + Bays.ship(number, "" + n);
            dueFault(text, NONE);
            due("number " + number, read(Bays.laid(text), number), n);
        }
        dueFault(TWO + Bays.ship(number, "" + (least - 1)), 6);
        dueFault(TWO + Bays.ship(number, "" + (most + 1)), 6);
        dueFault(TWO + Bays.ship(number, "0".repeat(4)), 6);
    }

    private static void depths() {
        for (int depth = 1; depth <= 20; depth++) {
            dueFault("c" + depth + ";", NONE);
            due("depth", Bays.laid("c1;c" + depth + ";" + Bays.ship(0, "0")).moor(0, 1, 0, 1), depth);
        }
        for (int wrong : new int[] {0, 21, 22, 30, 99, 100, 120, 200, 999}) {
            dueFault("c" + wrong + ";", 0);
            dueFault("c1;c" + wrong + ";" + Bays.ship(0, "0"), 3);
        }
    }

    private static ChainLays asked(int calls) {
        ChainLays x = new ChainLays();
        for (int i = 0; i < calls; i++) {
            x.count(i % 8);
        }
        return x;
    }

    private static void fiveHundredTwelfthCall() {
        due("write", asked(511).write('c'), 1);
        due("lay", asked(511).lay(), NO);
        due("links", asked(511).links(0, 0, 21), 20);
        due("moor", asked(511).moor(0, 8, 3, 30), 3);
        due("hours", asked(511).hours(24, 20, 1), 3);
        due("wind", asked(511).wind(0, 10, 2), 211);
        due("fewest", asked(511).fewest(1, 10), 20);
        due("tooMuch", asked(511).tooMuch(2), 9);
        ChainLays x = new ChainLays();
        for (int call = 1; call <= 510; call++) {
            x.links(0, 0, 1 + call % 60);
        }
        due("undo as the 511th", x.undo(), 5);
        due("links behind it", x.anchor(0, 0, 2), 1 + 509 % 60);
    }

    private static void ships() {
        for (int n = 1; n <= 5; n++) {
            ChainLays x = Bays.laid(TWO + Bays.ship(0, "0").repeat(n - 1) + Bays.ship(2, "41"));
            due("ships", x.count(1), n);
            due("the last of " + n, x.anchor(n - 1, 0, 2), 41);
            due("behind the last of " + n, x.ship(n, 0), BAD);
            due("ahead of the first", x.ship(-1, 0), BAD);
        }
        dueFault(TWO + Bays.ship(0, "0").repeat(6), 6 + 5 * Bays.ship(0, "0").length());
    }

    private static void corners() {
        String columns = "c1;".repeat(20);
        String[] cells = {"0,0", "0,19", "19,0", "19,19"};
        for (String cell : cells) {
            ChainLays x = Bays.laid(columns + "s" + cell + ",2,1,1,4,20;");
            CHECKS.same("cell", x.anchor(0, 0, 0) + "," + x.anchor(0, 0, 1), cell);
        }
        dueFault(columns + "s20,0,2,1,1,4,20;", 60);
        dueFault(columns + "s0,20,2,1,1,4,20;", 60);
    }

    private static void longest() {
        ChainLays x = Bays.told(LONGEST);
        due("letters", x.count(7), 180);
        due("lay 180", x.lay(), 5);
        Bays.write(x, "x".repeat(20));
        due("letters", x.count(7), 200);
        due("fault behind 180", x.fault(), 180);
        due("the 201st", x.write(';'), FULL);
        due("fault yet", x.fault(), 180);
        // zeros ahead make it 200 letters long: the last of them counts
        String whole = "c020;".repeat(20) + "s19,19,60,5,9,9,999;".repeat(5);
        x = Bays.told(whole);
        due("letters", x.count(7), 200);
        due("fault", x.fault(), NONE);
        due("lay 200", x.lay(), 5);
        x = Bays.told(whole.substring(0, 199));
        due("without the last", x.fault(), 180);
        due("the 200th", x.write(';'), 200);
        due("with the last", x.fault(), NONE);
    }

    private static void itemsOnly() {
        for (char letter = 32; letter <= 126; letter++) {
            boolean isColumn = letter == 'c';
            dueFault(letter + "1;", isColumn ? NONE : 0);
            dueFault(TWO + letter + "2;", isColumn ? NONE : 6);
            boolean isShip = letter == 's';
            dueFault(TWO + letter + Bays.ship(0, "0").substring(1), isShip ? NONE : 6);
        }
        dueFault("c1;" + " " + "c1;", 3);
        dueFault(TWO + Bays.ship(0, "0") + " ", TWO.length() + Bays.ship(0, "0").length());
        dueFault("cc1;", 0);
        dueFault(TWO + "s" + Bays.ship(0, "0"), 6);
    }

    private static void semicolons() {
        String ship = Bays.ship(0, "0");
        dueFault("c1", 0);
        dueFault("c1;c1", 3);
        dueFault(";", 0);
        dueFault(";c1;", 0);
        dueFault("c1;;", 3);
        dueFault("c1;;c1;", 3);
        dueFault("c;", 0);
        dueFault("s;", 0);
        dueFault("c1c1;", 0);
        dueFault("c1,", 0);
        dueFault(TWO + ship.substring(0, ship.length() - 1), 6);
        dueFault(TWO + ship + ";", 6 + ship.length());
        for (char letter = 32; letter <= 126; letter++) {
            boolean fits = letter == ';';
            dueFault("c1" + letter, fits ? NONE : 0);
            dueFault(TWO + "s0,0,2,1,1,4,20" + letter, fits ? NONE : 6);
        }
        // a figure more may be one of a number, and a ; ends it then
        dueFault("c12;", NONE);
    }

    private static void commas() {
        dueFault(TWO + "s0,0,2,1,1,4;", 6);
        dueFault(TWO + "s0,0,2,1,1,4,20,1;", 6);
        dueFault(TWO + "s0,0,2,1,1,4,20,;", 6);
        dueFault(TWO + "s,0,0,2,1,1,4,20;", 6);
        dueFault("c1,1;", 0);
        String good = "s0,0,2,1,1,4,20;";
        for (int i = 1; i < good.length() - 1; i++) {
            if (good.charAt(i) == ',') {
                dueFault(TWO + good.substring(0, i) + ";" + good.substring(i + 1), 6);
                dueFault(TWO + good.substring(0, i) + " " + good.substring(i + 1), 6);
                dueFault(TWO + good.substring(0, i) + good.substring(i + 1), 6);
                dueFault(TWO + good.substring(0, i) + "," + good.substring(i), 6);
            }
        }
    }

    private static void figures() {
        String[] one = {"0", "0", "2", "1", "1", "4", "20"};
        for (int i = 0; i < 7; i++) {
            String three = ("00" + one[i]).substring(one[i].length() - 1);
            dueFault(TWO + Bays.ship(i, ""), 6);
            dueFault(TWO + Bays.ship(i, three), NONE);
            due("three figures", read(Bays.laid(TWO + Bays.ship(i, three)), i), Integer.parseInt(one[i]));
            dueFault(TWO + Bays.ship(i, "0" + three), 6);
        }
        dueFault("c;", 0);
        dueFault("c7;", NONE);
        dueFault("c07;", NONE);
        dueFault("c007;", NONE);
        dueFault("c0007;", 0);
        dueFault("c00000000000007;", 0);
        // 2 to the power of 32, and 1
        dueFault("c4294967297;", 0);
        due("as deep as it is told", Bays.laid("c020;c007;" + Bays.ship(0, "0")).moor(0, 1, 0, 1), 7);
    }

    private static void figuresAlone() {
        for (char letter = 32; letter <= 126; letter++) {
            boolean isFigure = letter >= '0' && letter <= '9';
            dueFault("c" + letter + ";", isFigure && letter != '0' ? NONE : 0);
            // a ; ends the first ITEM, and the next one is the ; behind it
            dueFault("c1" + letter + ";", isFigure ? NONE : letter == ';' ? 3 : 0);
            dueFault(TWO + Bays.ship(6, "1" + letter), isFigure ? NONE : 6);
        }
        dueFault("c-1;", 0);
        dueFault("c+1;", 0);
        dueFault("c 1;", 0);
        dueFault("c1 ;", 0);
    }

    private static void toldAhead() {
        dueFault("c1;" + Bays.ship(0, "0"), NONE);
        dueFault("c1;" + Bays.ship(0, "1"), 3);
        dueFault("c1;" + Bays.ship(0, "1") + "c1;", 3);
        dueFault("c1;" + Bays.ship(0, "0") + "c1;" + Bays.ship(0, "1"), NONE);
        dueFault(Bays.ship(0, "0") + TWO, 0);
        dueFault(TWO + Bays.ship(0, "2"), 6);
        ChainLays x = Bays.laid("c1;" + Bays.ship(0, "0") + "c5;" + Bays.ship(0, "1"));
        due("columns among ships", x.count(0), 2);
        due("the ship behind", x.anchor(1, 0, 0), 1);
        due("the column behind", x.moor(0, 1, 0, 1), 5);
    }

    private static void firstLetter() {
        dueFault("x", 0);
        dueFault("c21;", 0);
        dueFault("c20;c21;", 4);
        dueFault("c1;c20;c1;c999;", 10);
        // the last number of the ITEM is wrong, and its first letter is told
        dueFault(TWO + Bays.ship(6, "9"), 6);
        dueFault(TWO + Bays.ship(0, "0") + Bays.ship(6, "9"), 6 + Bays.ship(0, "0").length());
        dueFault(TWO + Bays.ship(0, "0") + "c", 6 + Bays.ship(0, "0").length());
    }

    private static void firstFault() {
        dueFault("c0;c0;", 0);
        dueFault("c1;c0;x", 3);
        dueFault("c1;c0;" + Bays.ship(0, "7"), 3);
        dueFault(TWO + Bays.ship(3, "6") + "c0;", 6);
        // a good ITEM behind the FAULT mends nothing
        dueFault("c0;" + TWO + Bays.ship(0, "0"), 0);
        // one too many behind another FAULT
        dueFault("c0;" + "c1;".repeat(21), 0);
    }

    private static void tooMany() {
        String ship = Bays.ship(0, "0");
        dueFault("c1;".repeat(20), NONE);
        dueFault("c1;".repeat(21), 60);
        dueFault("c1;".repeat(20) + ship + "c1;", 60 + ship.length());
        dueFault("c1;".repeat(19) + ship + "c1;", NONE);
        dueFault("c1;" + ship.repeat(5), NONE);
        dueFault("c1;" + ship.repeat(6), 3 + 5 * ship.length());
        dueFault("c1;" + ship.repeat(5) + "c1;" + ship, 6 + 5 * ship.length());
        dueFault("c1;" + ship.repeat(5) + "c1;", NONE);
    }

    private static void laidWithoutFault() {
        String good = TWO + Bays.ship(0, "0");
        due("good", Bays.told(good).lay(), 1);
        for (String tail : new String[] {"c", "c1", "c0;", ";", " ", "s", Bays.ship(0, "2")}) {
            ChainLays x = Bays.told(good + tail);
            due("lay " + good + tail, x.lay(), NO);
            CHECKS.same("all stays", Bays.standing(x), Bays.standing(new ChainLays()));
        }
    }

    private static void laidByColumns() {
        String ship = Bays.ship(0, "0");
        ChainLays x = Bays.told("c1;" + ship);
        due("fault of one column", x.fault(), NONE);
        due("lay one column", x.lay(), NO);
        CHECKS.same("all stays", Bays.standing(x), Bays.standing(new ChainLays()));
        Bays.write(x, "c1;");
        due("lay two", x.lay(), 1);
        due("two", x.count(0), 2);
    }

    private static void laidByShips() {
        for (String text : new String[] {"", "c1;", TWO, "c1;".repeat(20)}) {
            ChainLays x = Bays.told(text);
            due("fault of " + text, x.fault(), NONE);
            due("lay " + text, x.lay(), NO);
            CHECKS.same("all stays", Bays.standing(x), Bays.standing(new ChainLays()));
        }
        due("one ship", Bays.told(TWO + Bays.ship(0, "1")).lay(), 1);
    }

    private static void atFirst() {
        ChainLays told = Bays.laid(Bays.AT_FIRST);
        due("lay again", told.lay(), 3);
        told.wipe();
        CHECKS.same("as told", Bays.standingAndText(new ChainLays()), Bays.standingAndText(told));
        int[] depths = {3, 4, 4, 6, 8, 8, 5, 4, 3, 2};
        for (int column = 0; column < depths.length; column++) {
            due("depth", new ChainLays().moor(0, column, 0, 1), depths[column]);
        }
        CHECKS.same("all of it", Bays.standingAndText(new ChainLays()), "counts 10 3 0 0 0 72 0,"
            + " ship 0: 2 3 4 200 0 0 at 2 3 20 and -4 -4 -4,"
            + " ship 1: 3 5 6 300 0 0 at 5 9 40 and -4 -4 -4,"
            + " ship 2: 1 2 2 60 0 0 at 7 4 12 and -4 -4 -4, letters 0, fault -4");
    }

    private static void laidAnew() {
        ChainLays x = Bays.told(Bays.AT_FIRST);
        x.moor(0, 1, 1, 5);
        x.moor(1, 2, 2, 6);
        x.hours(1, 20, 1);
        x.hours(24, 20, 3);
        due("ashore", x.count(3), 3);
        // a CELL there, and two back till its SECOND one is in COLUMN 0
        due("dragged", x.ship(0, 5), 3);
        due("lay", x.lay(), 3);
        CHECKS.same("anew", Bays.standing(x), Bays.standing(new ChainLays()));
        due("hour", x.count(2), 0);
        due("ashore", x.count(3), 0);
        due("seconds", x.count(4), 0);
        // fewer SHIPS and COLUMNS than stood ahead of it, then more again
        x.wipe();
        Bays.write(x, TWO + Bays.ship(0, "1"));
        due("lay less", x.lay(), 1);
        due("ship 1 is no more", x.ship(1, 0), BAD);
        due("column 2 is no more", x.moor(0, 2, 0, 1), BAD);
        x.wipe();
        Bays.write(x, Bays.AT_FIRST);
        due("lay more", x.lay(), 3);
        CHECKS.same("anew", Bays.standing(x), Bays.standing(new ChainLays()));
    }

    private static void textStays() {
        String text = "c2;c2;" + Bays.ship(0, "1");
        ChainLays x = Bays.laid(text);
        due("letters", x.count(7), text.length());
        due("a letter more", x.write('c'), text.length() + 1);
        due("fault behind it", x.fault(), text.length());
        due("refused", x.lay(), NO);
        due("letters behind it", x.count(7), text.length() + 1);
        CHECKS.same("THE TEXT alone moves nothing", Bays.standing(x), Bays.standing(Bays.laid(text)));
        x.wipe();
        CHECKS.same("nor does its end", Bays.standing(x), Bays.standing(Bays.laid(text)));
    }

    private static void emptyAtFirst() {
        ChainLays x = new ChainLays();
        due("letters", x.count(7), 0);
        due("fault", x.fault(), NONE);
        due("lay", x.lay(), NO);
        due("wipe", x.wipe(), 0);
        due("the first letter", x.write('c'), 1);
        due("its fault", x.fault(), 0);
    }

    private static void letters() {
        for (int letter = 32; letter <= 126; letter++) {
            due("write " + letter, new ChainLays().write(letter), 1);
        }
        int[] wrong = {31, 127, 0, -1, 10, 128, 255, 256 + 'c', 65536 + 'c', -65536 + 'c',
            Integer.MAX_VALUE, Integer.MIN_VALUE};
        for (int letter : wrong) {
            ChainLays x = Bays.told("c1;");
            due("write " + letter, x.write(letter), BAD);
            due("letters", x.count(7), 3);
            due("fault", x.fault(), NONE);
        }
    }

    private static void howLong() {
        ChainLays x = new ChainLays();
        for (int n = 1; n <= 200; n++) {
            due("write", x.write('c'), n);
            due("letters", x.count(7), n);
        }
    }

    private static void full() {
        ChainLays x = Bays.told("c".repeat(199));
        due("the 200th", x.write('c'), 200);
        due("the 201st", x.write('c'), FULL);
        due("once more", x.write(32), FULL);
        due("BAD ahead of FULL", x.write(31), BAD);
        due("BAD ahead of FULL", x.write(127), BAD);
        due("letters", x.count(7), 200);
        due("wipe", x.wipe(), 200);
        due("room again", x.write('c'), 1);
    }

    private static void wiped() {
        due("none", new ChainLays().wipe(), 0);
        due("one", Bays.told("x").wipe(), 1);
        due("200", Bays.told("x".repeat(200)).wipe(), 200);
        due("not more than 200", Bays.told("x".repeat(201)).wipe(), 200);
        ChainLays x = Bays.told("c0;");
        due("three", x.wipe(), 3);
        due("none then", x.wipe(), 0);
        due("letters", x.count(7), 0);
        due("no fault", x.fault(), NONE);
        // what was told ahead of it is gone
        Bays.write(x, "c1;");
        due("fault", x.fault(), NONE);
        due("letters", x.count(7), 3);
    }

    private static void noFault() {
        dueFault("", NONE);
        dueFault("c1;", NONE);
        dueFault(TWO, NONE);
        dueFault(Bays.AT_FIRST, NONE);
        dueFault(LONGEST, NONE);
        ChainLays x = Bays.told("c1;c");
        due("fault", x.fault(), 3);
        due("asked again", x.fault(), 3);
        x.write('1');
        due("not yet", x.fault(), 3);
        x.write(';');
        due("mended", x.fault(), NONE);
        due("letters", x.count(7), 6);
        due("no change", x.count(6), 0);
    }

    private static void howManyShips() {
        for (int n = 1; n <= 5; n++) {
            ChainLays x = Bays.told(TWO + Bays.ship(0, "0").repeat(n));
            due("lay", x.lay(), n);
            due("again", x.lay(), n);
            due("ships", x.count(1), n);
        }
        due("none", Bays.told(TWO).lay(), NO);
        due("six", Bays.told(TWO + Bays.ship(0, "0").repeat(6)).lay(), NO);
    }
}
