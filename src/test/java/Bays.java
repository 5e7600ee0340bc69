/** What the tests do with an object beside asking for one answer. */
final class Bays {
    static final int BAD = -1, NO = -2, FULL = -3, NONE = -4;
    static final String AT_FIRST =
        "c3;c4;c4;c6;c8;c8;c5;c4;c3;c2;s2,3,20,2,3,4,200;s5,9,40,3,5,6,300;s7,4,12,1,2,2,60;";

    private Bays() { }

    static void write(ChainLays x, String text) {
        for (int i = 0; i < text.length(); i++) {
            x.write(text.charAt(i));
        }
    }

    static ChainLays told(String text) {
        ChainLays x = new ChainLays();
        write(x, text);
        return x;
    }

    /** A text that cannot be LAID is a fault of the test, or of the program where this text must be. */
    static ChainLays laid(String text) {
        ChainLays x = told(text);
        if (x.lay() <= 0) {
            System.out.println("not laid: " + text);
            System.exit(1);
        }
        return x;
    }

    /** A SHIP's ITEM with one of its numbers instead of what it is else: X 0, Y 0, N 2, W 1, L 1, A 4, G 20. */
    static String ship(int number, String instead) {
        String[] numbers = {"0", "0", "2", "1", "1", "4", "20"};
        numbers[number] = instead;
        return "s" + String.join(",", numbers) + ";";
    }

    static String anchor(ChainLays x, int s, int which) {
        return x.anchor(s, which, 0) + " " + x.anchor(s, which, 1) + " " + x.anchor(s, which, 2);
    }

    static String lie(ChainLays x, int s, int which, int h) {
        StringBuilder all = new StringBuilder();
        for (int what = 0; what < 6; what++) {
            all.append(what == 0 ? "" : " ").append(x.hangs(s, which, h, what));
        }
        return all.toString();
    }

    /** All that stands of the field and its SHIPS, and how many changes can be UNDONE. */
    static String standing(ChainLays x) {
        StringBuilder all = new StringBuilder("counts");
        for (int what = 0; what < 7; what++) {
            all.append(' ').append(x.count(what));
        }
        int ships = x.count(1);
        for (int s = 0; s < ships; s++) {
            all.append(", ship ").append(s).append(':');
            for (int what = 0; what < 6; what++) {
                all.append(' ').append(x.ship(s, what));
            }
            all.append(" at ").append(anchor(x, s, 0)).append(" and ").append(anchor(x, s, 1));
        }
        return all.toString();
    }

    static String standingAndText(ChainLays x) {
        return standing(x) + ", letters " + x.count(7) + ", fault " + x.fault();
    }
}
