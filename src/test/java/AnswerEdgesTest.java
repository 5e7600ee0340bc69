import java.util.ArrayList;
import java.util.List;
import java.util.function.Supplier;

/**
 * The words on BAD, NO, NONE and FULL: each number of each call just too small and just too great, and far away,
 * in several states; which answer goes ahead of which; and that nothing changes then.
 */
public final class AnswerEdgesTest {
    private static final int BAD = Bays.BAD, NO = Bays.NO, FULL = Bays.FULL, NONE = Bays.NONE;
    private static final Checks CHECKS = new Checks("AnswerEdgesTest");
    private static final int[] WIND = {0, 20}, WHICH = {0, 1}, LINKS = {1, 60}, ROW = {0, 19};

    private interface Asked {
        int answer(ChainLays x, int[] n);
    }

    /** A call with numbers, each with the least and the most that is told. */
    private record Call(String name, int[][] limits, Asked asked) {
        int answer(ChainLays x, int[] numbers) {
            return asked.answer(x, numbers);
        }
    }

    private AnswerEdgesTest() { }

    public static void main(String[] args) {
        CHECKS.sentence("BAD: a number is none that is told", AnswerEdgesTest::badAtFirst);
        CHECKS.sentence("the least and the most are told", AnswerEdgesTest::toldNumbers);
        CHECKS.sentence("COLUMNS, SHIPS such as there are", AnswerEdgesTest::suchAsThereAre);
        CHECKS.sentence("of several the first in this order: BAD ahead of NO", AnswerEdgesTest::badStranded);
        CHECKS.sentence("of several the first in this order: BAD ahead of FULL", AnswerEdgesTest::badFull);
        CHECKS.sentence("of several the first in this order: NO ahead of NONE", AnswerEdgesTest::noAheadOfNone);
        CHECKS.sentence("NO: not as things stand; nothing changes then", AnswerEdgesTest::refused);
        CHECKS.sentence("NONE: there is none; nothing changes then", AnswerEdgesTest::none);
        CHECKS.sentence("FULL; nothing changes then", AnswerEdgesTest::full);
        CHECKS.end();
    }

    private static List<Call> calls(int columns, int ships) {
        int[] s = {0, ships - 1};
        List<Call> all = new ArrayList<>();
        all.add(new Call("write", new int[][] {{32, 126}}, (x, n) -> x.write(n[0])));
        all.add(new Call("links", new int[][] {s, WHICH, LINKS}, (x, n) -> x.links(n[0], n[1], n[2])));
        all.add(new Call("moor", new int[][] {s, {0, columns - 1}, ROW, LINKS},
            (x, n) -> x.moor(n[0], n[1], n[2], n[3])));
        all.add(new Call("weigh", new int[][] {s}, (x, n) -> x.weigh(n[0])));
        all.add(new Call("hours", new int[][] {{1, 24}, WIND, {0, 3}}, (x, n) -> x.hours(n[0], n[1], n[2])));
        all.add(new Call("anchor", new int[][] {s, WHICH, {0, 2}}, (x, n) -> x.anchor(n[0], n[1], n[2])));
        all.add(new Call("ship", new int[][] {s, {0, 5}}, (x, n) -> x.ship(n[0], n[1])));
        all.add(new Call("hangs", new int[][] {s, WHICH, {0, 9999}, {0, 5}},
            (x, n) -> x.hangs(n[0], n[1], n[2], n[3])));
        all.add(new Call("wind", new int[][] {s, WIND, {0, 2}}, (x, n) -> x.wind(n[0], n[1], n[2])));
        all.add(new Call("fewest", new int[][] {s, WIND}, (x, n) -> x.fewest(n[0], n[1])));
        all.add(new Call("tooMuch", new int[][] {s}, (x, n) -> x.tooMuch(n[0])));
        all.add(new Call("close", new int[][] {s, WIND}, (x, n) -> x.close(n[0], n[1])));
        all.add(new Call("all", new int[][] {WIND, {0, 1}}, (x, n) -> x.all(n[0], n[1])));
        all.add(new Call("count", new int[][] {{0, 7}}, (x, n) -> x.count(n[0])));
        return all;
    }

    /** Six changes that each can be told from the others, and one more ahead of them. */
    private static ChainLays busy() {
        ChainLays x = new ChainLays();
        x.links(2, 0, 13);
        x.links(2, 0, 12);
        x.moor(0, 8, 3, 30);
        x.links(0, 1, 29);
        x.hours(1, 10, 1);
        x.links(1, 0, 33);
        x.hours(2, 12, 0);
        Bays.write(x, "c1;c0;");
        return x;
    }

    /** All are ASHORE, one with a SECOND ANCHOR; there are 999 HOURS and 200 letters. */
    private static ChainLays stranded() {
        ChainLays x = new ChainLays();
        x.moor(0, 8, 3, 30);
        for (int i = 0; i < 41; i++) {
            x.hours(24, 20, 1);
        }
        x.hours(15, 20, 1);
        Bays.write(x, "c1;".repeat(66) + "c1");
        return x;
    }

    /** What stands now, and what stands when all that can be is UNDONE. */
    private static String standingAndPast(ChainLays x) {
        StringBuilder all = new StringBuilder(Bays.standingAndText(x));
        for (int i = 0; i < 7; i++) {
            all.append(", undo ").append(x.undo());
        }
        return all.append(", ").append(Bays.standing(x)).toString();
    }

    private static void dueUnchanged(String call, Supplier<ChainLays> state, Asked asked, int want, int... numbers) {
        ChainLays x = state.get();
        CHECKS.due(call + " " + java.util.Arrays.toString(numbers), asked.answer(x, numbers), want);
        CHECKS.same("behind " + call, standingAndPast(x), standingAndPast(state.get()));
    }

    private static int[] filled(Call call, int side) {
        int[] numbers = new int[call.limits().length];
        for (int i = 0; i < numbers.length; i++) {
            numbers[i] = call.limits()[i][side];
        }
        return numbers;
    }

    private static int[] wrongFor(int[] limits) {
        return new int[] {limits[0] - 1, limits[1] + 1, limits[0] - 100, limits[1] + 100,
            Integer.MIN_VALUE, Integer.MAX_VALUE, limits[0] - 65536, limits[1] + 65536, limits[0] - 256, limits[1] + 256};
    }

    /** Each number wrong alone, the others at their least and at their most. */
    private static void dueBad(Supplier<ChainLays> state, int columns, int ships) {
        for (Call call : calls(columns, ships)) {
            for (int side = 0; side < 2; side++) {
                for (int i = 0; i < call.limits().length; i++) {
                    for (int wrong : wrongFor(call.limits()[i])) {
                        int[] numbers = filled(call, side);
                        numbers[i] = wrong;
                        dueUnchanged(call.name(), state, call.asked(), BAD, numbers);
                    }
                }
            }
        }
        Asked apart = (x, n) -> x.apart(n[0], n[1], n[2]);
        int last = ships - 1;
        int[][] wrong = {{0, 0, 0}, {last, last, 20}, {-1, 0, 0}, {0, -1, 0}, {ships, 0, 0}, {0, ships, 0},
            {-1, -1, 0}, {ships, ships, 0}, {0, last, -1}, {0, last, 21}, {last, 0, Integer.MAX_VALUE},
            {Integer.MIN_VALUE, 0, 0}, {0, Integer.MAX_VALUE, 0}, {0, last, Integer.MIN_VALUE}};
        for (int[] w : wrong) {
            dueUnchanged("apart", state, apart, BAD, w);
        }
    }

    private static void badAtFirst() {
        dueBad(ChainLays::new, 10, 3);
        dueBad(AnswerEdgesTest::busy, 10, 3);
    }

    private static void toldNumbers() {
        for (Call call : calls(10, 3)) {
            for (int side = 0; side < 2; side++) {
                for (int i = 0; i < call.limits().length; i++) {
                    int[] numbers = filled(call, side);
                    numbers[i] = call.limits()[i][1 - side];
                    String name = call.name() + " " + java.util.Arrays.toString(numbers);
                    CHECKS.so(name + " is not BAD", call.answer(new ChainLays(), numbers) != BAD);
                    CHECKS.so(name + " is not BAD busy", call.answer(busy(), numbers) != BAD);
                }
            }
        }
        for (int s = 0; s < 3; s++) {
            for (int t = 0; t < 3; t++) {
                int got = new ChainLays().apart(s, t, 20);
                CHECKS.so("apart " + s + " " + t, s == t ? got == BAD : got == 0 || got == 1);
            }
        }
    }

    private static void suchAsThereAre() {
        dueBad(() -> Bays.laid("c1;c2;" + Bays.ship(0, "0") + Bays.ship(0, "1")), 2, 2);
        dueBad(() -> Bays.laid("c3;".repeat(20) + Bays.ship(0, "0").repeat(5)), 20, 5);
        // more stood ahead of it: they are there no more
        dueBad(() -> {
            ChainLays x = Bays.laid("c3;".repeat(20) + Bays.ship(0, "0").repeat(5));
            x.wipe();
            Bays.write(x, "c1;c2;" + Bays.ship(0, "0") + Bays.ship(0, "1"));
            x.lay();
            return x;
        }, 2, 2);
        ChainLays alone = Bays.laid("c1;c2;" + Bays.ship(0, "0"));
        CHECKS.due("nobody to be apart from", alone.apart(0, 1, 0), BAD);
        CHECKS.due("alone", alone.apart(0, 0, 0), BAD);
        CHECKS.due("no pair", alone.all(0, 1), 0);
    }

    private static void badStranded() {
        dueBad(AnswerEdgesTest::stranded, 10, 3);
    }

    private static void badFull() {
        for (int letter : wrongFor(new int[] {32, 126})) {
            dueUnchanged("write", AnswerEdgesTest::stranded, (x, n) -> x.write(n[0]), BAD, letter);
        }
    }

    private static void noAheadOfNone() {
        for (int s = 0; s < 3; s++) {
            for (int what = 0; what < 6; what++) {
                dueUnchanged("hangs", AnswerEdgesTest::stranded, (x, n) -> x.hangs(n[0], 1, 0, n[1]), NO, s, what);
            }
            dueUnchanged("fewest", AnswerEdgesTest::stranded, (x, n) -> x.fewest(n[0], 20), NO, s);
            dueUnchanged("tooMuch", AnswerEdgesTest::stranded, (x, n) -> x.tooMuch(n[0]), NO, s);
            dueUnchanged("close", AnswerEdgesTest::stranded, (x, n) -> x.close(n[0], 20), NO, s);
        }
        // anchor has no NO
        dueUnchanged("anchor", AnswerEdgesTest::stranded, (x, n) -> x.anchor(n[0], 1, 0), NONE, 1);
    }

    private static void refused() {
        dueUnchanged("undo", ChainLays::new, (x, n) -> x.undo(), NO);
        dueUnchanged("lay", ChainLays::new, (x, n) -> x.lay(), NO);
        dueUnchanged("lay", AnswerEdgesTest::busy, (x, n) -> x.lay(), NO);
        dueUnchanged("lay", AnswerEdgesTest::stranded, (x, n) -> x.lay(), NO);
        dueUnchanged("moor", AnswerEdgesTest::busy, (x, n) -> x.moor(0, 1, 1, 1), NO);
        for (int s = 1; s < 3; s++) {
            dueUnchanged("links", AnswerEdgesTest::busy, (x, n) -> x.links(n[0], 1, 5), NO, s);
            dueUnchanged("weigh", AnswerEdgesTest::busy, (x, n) -> x.weigh(n[0]), NO, s);
        }
        for (int s = 0; s < 3; s++) {
            dueUnchanged("links", AnswerEdgesTest::stranded, (x, n) -> x.links(n[0], 0, 5), NO, s);
            dueUnchanged("links", AnswerEdgesTest::stranded, (x, n) -> x.links(n[0], 1, 5), NO, s);
            dueUnchanged("moor", AnswerEdgesTest::stranded, (x, n) -> x.moor(n[0], 1, 1, 1), NO, s);
            dueUnchanged("weigh", AnswerEdgesTest::stranded, (x, n) -> x.weigh(n[0]), NO, s);
            dueUnchanged("hangs", AnswerEdgesTest::stranded, (x, n) -> x.hangs(n[0], 0, 0, 0), NO, s);
            for (int what = 0; what < 3; what++) {
                dueUnchanged("wind", AnswerEdgesTest::stranded, (x, n) -> x.wind(n[0], 0, n[1]), NO, s, what);
            }
        }
        dueUnchanged("hours", AnswerEdgesTest::stranded, (x, n) -> x.hours(1, 0, 0), NO);
        dueUnchanged("hours", AnswerEdgesTest::stranded, (x, n) -> x.hours(24, 20, 3), NO);
    }

    private static void none() {
        for (int s = 1; s < 3; s++) {
            for (int what = 0; what < 3; what++) {
                dueUnchanged("anchor", AnswerEdgesTest::busy, (x, n) -> x.anchor(n[0], 1, n[1]), NONE, s, what);
            }
            for (int what = 0; what < 6; what++) {
                dueUnchanged("hangs", AnswerEdgesTest::busy, (x, n) -> x.hangs(n[0], 1, 9, n[1]), NONE, s, what);
            }
        }
        dueUnchanged("fault", ChainLays::new, (x, n) -> x.fault(), NONE);
        dueUnchanged("fewest", ChainLays::new, (x, n) -> x.fewest(2, 12), NONE);
        dueUnchanged("close", ChainLays::new, (x, n) -> x.close(0, 3), NONE);
        Supplier<ChainLays> heavy = () -> Bays.laid("c1;c1;s0,0,60,5,1,1,999;");
        dueUnchanged("tooMuch", heavy, (x, n) -> x.tooMuch(0), NONE);
    }

    private static void full() {
        for (int letter = 32; letter <= 126; letter++) {
            dueUnchanged("write", AnswerEdgesTest::stranded, (x, n) -> x.write(n[0]), FULL, letter);
        }
    }
}
