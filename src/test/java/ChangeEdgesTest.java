/** Every sentence of the document on changes and UNDONE that names a boundary: part 4, promises 6 to 8 and 10. */
public final class ChangeEdgesTest {
    private static final int BAD = Bays.BAD, NO = Bays.NO;
    private static final Checks CHECKS = new Checks("ChangeEdgesTest");

    private ChangeEdgesTest() { }

    public static void main(String[] args) {
        CHECKS.sentence("6: LINKS are n (1 to 60): how many they were", ChangeEdgesTest::links);
        CHECKS.sentence("6: the first one, 0, the SECOND, 1", ChangeEdgesTest::linksOfEither);
        CHECKS.sentence("6: NO: the SHIP is ASHORE", ChangeEdgesTest::linksAshore);
        CHECKS.sentence("6: NO: it has no SECOND one", ChangeEdgesTest::linksOfNone);
        CHECKS.sentence("7: laid in a CELL, n LINKS out (1 to 60)", ChangeEdgesTest::moor);
        CHECKS.sentence("7: DEPTH (D as told in THE TEXT, not 10 times it)", ChangeEdgesTest::depthAsTold);
        CHECKS.sentence("7: NO: it is ASHORE", ChangeEdgesTest::moorAshore);
        CHECKS.sentence("7: NO: it has one", ChangeEdgesTest::moorTwice);
        CHECKS.sentence("8: weighed: how many LINKS it had", ChangeEdgesTest::weigh);
        CHECKS.sentence("8: NO: it is ASHORE, has none", ChangeEdgesTest::weighRefused);
        CHECKS.sentence("a change: LINKS let out or taken in", ChangeEdgesTest::undoLinks);
        CHECKS.sentence("a change: a SECOND ANCHOR laid", ChangeEdgesTest::undoMoor);
        CHECKS.sentence("a change: a SECOND ANCHOR weighed", ChangeEdgesTest::undoWeigh);
        CHECKS.sentence("a change: HOURS", ChangeEdgesTest::undoHours);
        CHECKS.sentence("a change of any of five SHIPS", ChangeEdgesTest::undoAnyOfFive);
        CHECKS.sentence("HOURS of one call at once", ChangeEdgesTest::undoHoursAtOnce);
        CHECKS.sentence("UNDONE is the latest change", ChangeEdgesTest::latestFirst);
        CHECKS.sentence("the last 6 can be", ChangeEdgesTest::lastSix);
        CHECKS.sentence("the last 6 can be, round and round", ChangeEdgesTest::roundAndRound);
        CHECKS.sentence("such by which nothing becomes another, too", ChangeEdgesTest::nothingAnother);
        CHECKS.sentence("behind LAID none can be", ChangeEdgesTest::behindLaid);
        CHECKS.sentence("10: UNDONE: how many more can be. NO.", ChangeEdgesTest::howManyMore);
        CHECKS.sentence("what was UNDONE is no change", ChangeEdgesTest::undoneIsNone);
        CHECKS.sentence("THE TEXT is no part of a change", ChangeEdgesTest::textApart);
        CHECKS.sentence("what is asked changes nothing", ChangeEdgesTest::askedChangesNothing);
        CHECKS.end();
    }

    private static void due(String call, int got, int want) {
        CHECKS.due(call, got, want);
    }

    private static void dueAsNew(String when, ChainLays x) {
        CHECKS.same(when, Bays.standing(x), Bays.standing(new ChainLays()));
    }

    private static ChainLays ashore() {
        ChainLays x = new ChainLays();
        x.moor(0, 8, 3, 30);
        due("all ashore", x.hours(24, 20, 1), 3);
        return x;
    }

    private static void links() {
        ChainLays x = new ChainLays();
        due("to the least", x.links(0, 0, 1), 20);
        due("to the most", x.links(0, 0, 60), 1);
        due("to 2", x.links(0, 0, 2), 60);
        due("to 59", x.links(0, 0, 59), 2);
        due("0", x.links(0, 0, 0), BAD);
        due("61", x.links(0, 0, 61), BAD);
        due("-1", x.links(0, 0, -1), BAD);
        due("as before", x.anchor(0, 0, 2), 59);
        due("the others", x.anchor(1, 0, 2) + x.anchor(2, 0, 2), 52);
        for (int n = 1; n <= 60; n++) {
            due("was", x.links(2, 0, n), n == 1 ? 12 : n - 1);
            due("is", x.anchor(2, 0, 2), n);
        }
    }

    private static void linksOfEither() {
        ChainLays x = new ChainLays();
        x.moor(0, 8, 3, 30);
        due("second", x.links(0, 1, 60), 30);
        due("second", x.links(0, 1, 1), 60);
        CHECKS.same("both", Bays.anchor(x, 0, 0) + ", " + Bays.anchor(x, 0, 1), "2 3 20, 8 3 1");
        due("first", x.links(0, 0, 7), 20);
        CHECKS.same("both", Bays.anchor(x, 0, 0) + ", " + Bays.anchor(x, 0, 1), "2 3 7, 8 3 1");
        due("-1", x.links(0, -1, 7), BAD);
        due("2", x.links(0, 2, 7), BAD);
        due("second 0", x.links(0, 1, 0), BAD);
        due("second 61", x.links(0, 1, 61), BAD);
    }

    private static void linksAshore() {
        ChainLays x = ashore();
        due("first", x.links(0, 0, 5), NO);
        due("second", x.links(0, 1, 5), NO);
        due("no second", x.links(1, 1, 5), NO);
        due("BAD ahead of NO", x.links(0, 0, 61), BAD);
        due("BAD ahead of NO", x.links(0, 2, 5), BAD);
        CHECKS.same("both", Bays.anchor(x, 0, 0) + ", " + Bays.anchor(x, 0, 1), "3 3 20, 9 3 30");
        due("changes", x.count(6), 2);
    }

    private static void linksOfNone() {
        ChainLays x = new ChainLays();
        due("none", x.links(0, 1, 5), NO);
        due("BAD ahead of NO", x.links(0, 1, 0), BAD);
        due("BAD ahead of NO", x.links(3, 1, 5), BAD);
        dueAsNew("nothing changes", x);
        x.moor(0, 8, 3, 30);
        x.weigh(0);
        due("weighed", x.links(0, 1, 5), NO);
        due("of another", x.links(1, 1, 5), NO);
    }

    private static void moor() {
        int[][] good = {{0, 0, 0, 1}, {0, 9, 19, 60}, {2, 0, 19, 1}, {2, 9, 0, 60}, {0, 2, 3, 20}};
        for (int[] g : good) {
            ChainLays x = new ChainLays();
            CHECKS.so("moor", x.moor(g[0], g[1], g[2], g[3]) > 0);
            CHECKS.same("there", Bays.anchor(x, g[0], 1), g[1] + " " + g[2] + " " + g[3]);
            due("seconds", x.count(4), 1);
            due("changes", x.count(6), 1);
            due("links", x.count(5), 72 + g[3]);
        }
        int[][] wrong = {{-1, 0, 0, 1}, {3, 0, 0, 1}, {0, -1, 0, 1}, {0, 10, 0, 1}, {0, 0, -1, 1}, {0, 0, 20, 1},
            {0, 0, 0, 0}, {0, 0, 0, 61}};
        for (int[] w : wrong) {
            ChainLays x = new ChainLays();
            due("moor wrong", x.moor(w[0], w[1], w[2], w[3]), BAD);
            dueAsNew("nothing changes", x);
        }
    }

    private static void depthAsTold() {
        ChainLays x = Bays.laid("c20;c1;c13;" + Bays.ship(0, "0"));
        int[] due = {20, 1, 13};
        for (int column = 0; column < 3; column++) {
            due("column " + column, x.moor(0, column, 5, 1), due[column]);
            x.undo();
        }
    }

    private static void moorAshore() {
        ChainLays x = ashore();
        due("it has none", x.moor(1, 0, 0, 1), NO);
        due("it has one", x.moor(0, 0, 0, 1), NO);
        due("BAD ahead of NO", x.moor(1, 0, 0, 61), BAD);
        due("BAD ahead of NO", x.moor(1, 10, 0, 1), BAD);
        due("seconds", x.count(4), 1);
        due("changes", x.count(6), 2);
    }

    private static void moorTwice() {
        ChainLays x = new ChainLays();
        due("once", x.moor(0, 8, 3, 30), 3);
        due("twice", x.moor(0, 1, 1, 1), NO);
        due("the same", x.moor(0, 8, 3, 30), NO);
        due("BAD ahead of NO", x.moor(0, 8, 20, 30), BAD);
        CHECKS.same("as before", Bays.anchor(x, 0, 1), "8 3 30");
        due("changes", x.count(6), 1);
        due("another ship", x.moor(1, 8, 3, 30), 3);
        x.weigh(0);
        due("behind weigh", x.moor(0, 1, 1, 1), 4);
    }

    private static void weigh() {
        ChainLays x = new ChainLays();
        for (int n : new int[] {1, 60}) {
            x.moor(2, 8, 3, n);
            due("weigh", x.weigh(2), n);
        }
        x.moor(2, 8, 3, 30);
        x.links(2, 1, 31);
        due("as many as were out", x.weigh(2), 31);
        due("seconds", x.count(4), 0);
        due("links", x.count(5), 72);
        CHECKS.same("none", Bays.anchor(x, 2, 1), "-4 -4 -4");
        CHECKS.same("the first stays", Bays.anchor(x, 2, 0), "7 4 12");
        due("-1", x.weigh(-1), BAD);
        due("3", x.weigh(3), BAD);
    }

    private static void weighRefused() {
        ChainLays x = new ChainLays();
        for (int s = 0; s < 3; s++) {
            due("none", x.weigh(s), NO);
        }
        dueAsNew("nothing changes", x);
        x.moor(0, 8, 3, 30);
        due("another's", x.weigh(1), NO);
        x.weigh(0);
        due("twice", x.weigh(0), NO);
        ChainLays y = ashore();
        due("ashore", y.weigh(0), NO);
        due("ashore and none", y.weigh(1), NO);
        due("seconds", y.count(4), 1);
        due("BAD", y.weigh(3), BAD);
    }

    private static void undoLinks() {
        ChainLays x = new ChainLays();
        x.links(0, 0, 60);
        due("let out", x.undo(), 0);
        dueAsNew("back", x);
        x.links(2, 0, 1);
        due("taken in", x.undo(), 0);
        dueAsNew("back", x);
        x.moor(0, 8, 3, 30);
        x.links(0, 1, 5);
        due("of the second", x.undo(), 1);
        CHECKS.same("back", Bays.anchor(x, 0, 1), "8 3 30");
    }

    private static void undoMoor() {
        ChainLays x = new ChainLays();
        x.moor(1, 8, 3, 30);
        due("undo", x.undo(), 0);
        dueAsNew("back", x);
        due("moor again", x.moor(1, 0, 0, 1), 3);
    }

    private static void undoWeigh() {
        ChainLays x = new ChainLays();
        x.moor(1, 8, 3, 30);
        x.weigh(1);
        due("undo", x.undo(), 1);
        CHECKS.same("there again", Bays.anchor(x, 1, 1), "8 3 30");
        // another one laid in between is another change
        x.weigh(1);
        x.moor(1, 1, 2, 3);
        due("undo", x.undo(), 2);
        due("undo", x.undo(), 1);
        CHECKS.same("the first of them", Bays.anchor(x, 1, 1), "8 3 30");
    }

    private static void undoHours() {
        ChainLays x = new ChainLays();
        x.moor(0, 1, 1, 30);
        String before = Bays.standing(x);
        due("ashore", x.hours(24, 20, 3), 3);
        due("undo", x.undo(), 1);
        CHECKS.same("back", Bays.standing(x), before);
        due("again", x.hours(24, 20, 3), 3);
        due("and again", x.undo(), 1);
        CHECKS.same("back", Bays.standing(x), before);
        x.undo();
        dueAsNew("back", x);
    }

    private static void undoAnyOfFive() {
        String five = "c1;c9;" + "s1,9,2,1,1,4,25;".repeat(5);
        String laid = Bays.standing(Bays.laid(five));
        for (int s = 0; s < 5; s++) {
            ChainLays x = Bays.laid(five);
            x.links(s, 0, 60);
            x.moor(s, 0, 18, 1);
            x.links(s, 1, 60);
            // by WIND 2 none HOLDS on DEPTH 9; this one HOLDS by its SECOND ANCHOR
            due("dragged", x.hours(1, 2, 2), 0);
            due("this one", x.ship(s, 5), 0);
            due("the next one", x.ship((s + 1) % 5, 5), 1);
            due("links of its second", x.links(s, 1, 1), 60);
            due("weighed", x.weigh(s), 1);
            due("all come ashore", x.hours(24, 20, 2), 5);
            for (int left = 5; left >= 0; left--) {
                due("undo", x.undo(), left);
            }
            CHECKS.same("but for the first", Bays.anchor(x, s, 0) + ", " + Bays.anchor(x, s, 1), "1 9 60, -4 -4 -4");
            x.links(s, 0, 2);
            CHECKS.same("all others", Bays.standing(x).replace("10 1,", "10 0,"), laid);
        }
    }

    private static void undoHoursAtOnce() {
        ChainLays x = new ChainLays();
        x.hours(24, 0, 0);
        due("one change", x.count(6), 1);
        x.hours(1, 20, 1);
        due("two changes", x.count(6), 2);
        due("undo", x.undo(), 1);
        due("24 hours", x.count(2), 24);
        due("undo", x.undo(), 0);
        due("0 hours", x.count(2), 0);
        dueAsNew("back", x);
    }

    private static void latestFirst() {
        ChainLays x = new ChainLays();
        String[] standing = new String[5];
        standing[0] = Bays.standing(x);
        x.links(0, 0, 33);
        standing[1] = Bays.standing(x);
        x.moor(0, 8, 3, 30);
        standing[2] = Bays.standing(x);
        x.hours(2, 15, 1);
        standing[3] = Bays.standing(x);
        x.links(0, 1, 44);
        standing[4] = Bays.standing(x);
        for (int left = 3; left >= 0; left--) {
            due("undo", x.undo(), left);
            CHECKS.same("as it was", Bays.standing(x), standing[left]);
        }
    }

    private static void lastSix() {
        for (int changes = 1; changes <= 8; changes++) {
            ChainLays x = new ChainLays();
            for (int n = 1; n <= changes; n++) {
                x.links(0, 0, n);
            }
            int can = Math.min(changes, 6);
            due("can be", x.count(6), can);
            for (int left = can - 1; left >= 0; left--) {
                due("undo", x.undo(), left);
                due("can be", x.count(6), left);
            }
            due("no more", x.undo(), NO);
            due("links", x.anchor(0, 0, 2), changes > 6 ? changes - 6 : 20);
        }
    }

    private static void roundAndRound() {
        ChainLays x = new ChainLays();
        for (int n = 1; n <= 40; n++) {
            x.links(0, 0, n);
            if (n % 5 == 0) {
                due("undo", x.undo(), n == 5 ? 4 : 5);
                due("links", x.anchor(0, 0, 2), n - 1);
                x.links(0, 0, n);
            }
        }
        for (int left = 5; left >= 0; left--) {
            due("undo", x.undo(), left);
            due("links", x.anchor(0, 0, 2), left + 34);
        }
        due("no more", x.undo(), NO);
        x.links(0, 0, 50);
        x.links(0, 0, 51);
        due("undo", x.undo(), 1);
        due("links", x.anchor(0, 0, 2), 50);
        due("undo", x.undo(), 0);
        due("links", x.anchor(0, 0, 2), 34);
        due("no more", x.undo(), NO);
    }

    private static void nothingAnother() {
        ChainLays x = new ChainLays();
        due("the same links", x.links(0, 0, 20), 20);
        due("a change", x.count(6), 1);
        due("nobody dragged", x.hours(1, 0, 0), 0);
        due("a change", x.count(6), 2);
        due("undo", x.undo(), 1);
        due("undo", x.undo(), 0);
        dueAsNew("back", x);
        // such ones put the oldest of the six out
        x.links(0, 0, 33);
        for (int i = 0; i < 6; i++) {
            x.links(1, 0, 40);
        }
        for (int left = 5; left >= 0; left--) {
            due("undo", x.undo(), left);
        }
        due("no more", x.undo(), NO);
        due("links", x.anchor(0, 0, 2), 33);
        // all are ASHORE
        ChainLays y = ashore();
        due("nobody left", y.hours(1, 20, 1), 0);
        due("a change", y.count(6), 3);
        due("undo", y.undo(), 2);
        due("hours", y.count(2), 24);
        due("ashore yet", y.count(3), 3);
    }

    private static void behindLaid() {
        ChainLays x = Bays.told(Bays.AT_FIRST);
        for (int n = 1; n <= 6; n++) {
            x.links(0, 0, n);
        }
        due("six", x.count(6), 6);
        due("lay", x.lay(), 3);
        due("none", x.count(6), 0);
        due("undo", x.undo(), NO);
        dueAsNew("laid", x);
        x.links(0, 0, 9);
        due("one", x.undo(), 0);
        due("no more", x.undo(), NO);
        dueAsNew("laid", x);
        // one that is refused leaves them
        x.links(0, 0, 9);
        x.wipe();
        due("lay none", x.lay(), NO);
        due("one yet", x.count(6), 1);
        due("undo", x.undo(), 0);
        dueAsNew("back", x);
        due("a new object", new ChainLays().undo(), NO);
    }

    private static void howManyMore() {
        ChainLays x = new ChainLays();
        due("none", x.undo(), NO);
        dueAsNew("nothing changes", x);
        x.links(0, 0, 1);
        x.links(0, 0, 2);
        due("one more", x.undo(), 1);
        due("none more", x.undo(), 0);
        due("no", x.undo(), NO);
        due("no", x.undo(), NO);
        due("none can be", x.count(6), 0);
        dueAsNew("back", x);
    }

    private static void undoneIsNone() {
        ChainLays x = new ChainLays();
        x.links(0, 0, 1);
        x.undo();
        due("no change", x.count(6), 0);
        due("undo is not undone", x.undo(), NO);
        due("links", x.anchor(0, 0, 2), 20);
        x.links(0, 0, 1);
        x.links(0, 0, 2);
        x.undo();
        x.links(0, 0, 3);
        due("two", x.count(6), 2);
        due("undo", x.undo(), 1);
        due("links", x.anchor(0, 0, 2), 1);
    }

    private static void textApart() {
        ChainLays x = new ChainLays();
        x.links(0, 0, 1);
        Bays.write(x, "c1;c");
        due("no change", x.count(6), 1);
        due("undo", x.undo(), 0);
        due("letters", x.count(7), 4);
        due("fault", x.fault(), 3);
        x.links(0, 0, 1);
        x.wipe();
        due("no change", x.count(6), 1);
        due("undo", x.undo(), 0);
        due("letters", x.count(7), 0);
    }

    private static void askedChangesNothing() {
        ChainLays x = new ChainLays();
        x.moor(0, 8, 3, 30);
        x.hours(3, 15, 1);
        String before = Bays.standingAndText(x);
        for (int s = 0; s < 3; s++) {
            x.fewest(s, 10);
            x.tooMuch(s);
            x.close(s, 1);
            x.wind(s, 10, 2);
            x.apart(s, (s + 1) % 3, 7);
            x.hangs(s, 0, 77, 2);
            x.hangs(s, 1, 77, 2);
        }
        x.all(10, 0);
        x.all(10, 1);
        CHECKS.same("asked", Bays.standingAndText(x), before);
        // the same question has the same answer, whatever was asked in between
        int swing = x.wind(0, 10, 2);
        x.close(0, 3);
        x.fewest(1, 20);
        due("swing", x.wind(0, 10, 2), swing);
    }
}
