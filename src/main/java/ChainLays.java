/** Anchor chains and how they lie; ../shared/DOC.md says what every call must do. */
public final class ChainLays {
    public static final int BAD = -1, NO = -2, FULL = -3, NONE = -4;

    private static final int MOST_LETTERS = 200;
    private static final int MOST_COLUMNS = 20;
    private static final int MOST_SHIPS = 5;
    private static final int LAST_ROW = 19;
    private static final int MOST_LINKS = 60;
    private static final int MOST_WIND = 20;
    private static final int MOST_PULL = 9999;
    private static final int MOST_LIFT = 999;
    private static final int MOST_HOURS_A_CALL = 24;
    private static final int MOST_HOURS = 999;
    private static final int MOST_UNDONE = 6;
    private static final int TENTHS = 10;
    private static final String AT_FIRST =
        "c3;c4;c4;c6;c8;c8;c5;c4;c3;c2;s2,3,20,2,3,4,200;s5,9,40,3,5,6,300;s7,4,12,1,2,2,60;";

    private final Letters text;
    private final Plan plan;
    private final Bay bay;
    private final Past past;

    public ChainLays() {
        text = new Letters();
        plan = new Plan();
        bay = new Bay();
        past = new Past();
        for (int i = 0; i < AT_FIRST.length(); i++) {
            text.append(AT_FIRST.charAt(i));
        }
        plan.read(text);
        bay.layOut(plan);
        text.clear();
    }

    // ---- told

    public int write(int letter) {
        if (!within(letter, 32, 126)) {
            return BAD;
        }
        return text.append((char) letter) ? text.length : FULL;
    }

    public int wipe() {
        int length = text.length;
        text.clear();
        return length;
    }

    public int fault() {
        return plan.read(text);
    }

    public int lay() {
        if (plan.read(text) != NONE || plan.columns < 2 || plan.ships < 1) {
            return NO;
        }
        bay.layOut(plan);
        past.clear();
        return bay.shipCount;
    }

    // ---- done

    public int links(int s, int anchor, int n) {
        Ship ship = bay.shipAt(s);
        if (ship == null || !within(anchor, 0, 1) || !within(n, 1, MOST_LINKS)) {
            return BAD;
        }
        Anchor its = ship.anchorAt(anchor);
        if (ship.ashore || its == null) {
            return NO;
        }
        remember();
        int before = its.links;
        its.links = n;
        return before;
    }

    public int moor(int s, int x, int y, int n) {
        Ship ship = bay.shipAt(s);
        if (ship == null || !bay.isCell(x, y) || !within(n, 1, MOST_LINKS)) {
            return BAD;
        }
        if (ship.ashore || ship.moored) {
            return NO;
        }
        remember();
        ship.moored = true;
        ship.second.put(x, y, n);
        return bay.depthAt(x);
    }

    public int weigh(int s) {
        Ship ship = bay.shipAt(s);
        if (ship == null) {
            return BAD;
        }
        if (ship.ashore || !ship.moored) {
            return NO;
        }
        remember();
        ship.moored = false;
        return ship.second.links;
    }

    public int hours(int n, int b, int side) {
        if (!within(n, 1, MOST_HOURS_A_CALL) || !isWind(b) || !within(side, 0, 3)) {
            return BAD;
        }
        if (bay.hour + n > MOST_HOURS) {
            return NO;
        }
        remember();
        int stranded = 0;
        for (int i = 0; i < n; i++) {
            stranded += bay.passHour(b, side);
        }
        return stranded;
    }

    public int undo() {
        int[] row = past.takeLatest();
        if (row == null) {
            return NO;
        }
        bay.restore(row);
        return past.size;
    }

    // ---- ships

    public int anchor(int s, int anchor, int what) {
        Ship ship = bay.shipAt(s);
        if (ship == null || !within(anchor, 0, 1) || !within(what, 0, 2)) {
            return BAD;
        }
        Anchor its = ship.anchorAt(anchor);
        if (its == null) {
            return NONE;
        }
        switch (what) {
            case 0: return its.column;
            case 1: return its.row;
            default: return its.links;
        }
    }

    public int ship(int s, int what) {
        Ship ship = bay.shipAt(s);
        if (ship == null) {
            return BAD;
        }
        switch (what) {
            case 0: return ship.weight;
            case 1: return ship.length;
            case 2: return ship.area;
            case 3: return ship.grip;
            case 4: return oneIf(ship.ashore);
            case 5: return ship.dragged;
            default: return BAD;
        }
    }

    public int hangs(int s, int anchor, int h, int what) {
        Ship ship = bay.shipAt(s);
        if (ship == null || !within(anchor, 0, 1) || !within(h, 0, MOST_PULL) || !within(what, 0, 5)) {
            return BAD;
        }
        if (ship.ashore) {
            return NO;
        }
        Anchor its = ship.anchorAt(anchor);
        if (its == null) {
            return NONE;
        }
        Chain chain = bay.chainOf(ship, its, its.links, h);
        chain.findLie();
        switch (what) {
            case 0: return chain.hang;
            case 1: return chain.ground;
            case 2: return chain.reach;
            case 3: return chain.lift;
            case 4: return chain.holding(ship.grip);
            default: return oneIf(chain.taut);
        }
    }

    public int wind(int s, int b, int what) {
        Ship ship = bay.shipAt(s);
        if (ship == null || !isWind(b) || !within(what, 0, 2)) {
            return BAD;
        }
        if (ship.ashore) {
            return NO;
        }
        switch (what) {
            case 0: return ship.pullBy(b);
            case 1: return oneIf(bay.holdsBy(ship, ship.first.links, b));
            default:
                bay.measureSwing(ship, ship.first.links, b);
                return ship.swing;
        }
    }

    public int apart(int s, int t, int b) {
        Ship one = bay.shipAt(s);
        Ship other = bay.shipAt(t);
        if (one == null || other == null || s == t || !isWind(b)) {
            return BAD;
        }
        bay.measureSwing(one, one.first.links, b);
        bay.measureSwing(other, other.first.links, b);
        return oneIf(one.isClearOf(other));
    }

    // ---- what is best

    public int fewest(int s, int b) {
        Ship ship = bay.shipAt(s);
        if (ship == null || !isWind(b)) {
            return BAD;
        }
        if (ship.ashore) {
            return NO;
        }
        for (int n = 1; n <= MOST_LINKS; n++) {
            if (bay.holdsBy(ship, n, b)) {
                return n;
            }
        }
        return NONE;
    }

    public int tooMuch(int s) {
        Ship ship = bay.shipAt(s);
        if (ship == null) {
            return BAD;
        }
        if (ship.ashore) {
            return NO;
        }
        for (int b = 0; b <= MOST_WIND; b++) {
            if (!bay.holdsBy(ship, ship.first.links, b)) {
                return b;
            }
        }
        return NONE;
    }

    public int close(int s, int b) {
        Ship ship = bay.shipAt(s);
        if (ship == null || !isWind(b)) {
            return BAD;
        }
        if (ship.ashore) {
            return NO;
        }
        bay.measureSwings(b);
        for (int n = MOST_LINKS; n >= 1; n--) {
            if (bay.holdsBy(ship, n, b) && bay.isClearOfAll(ship, n, b)) {
                return n;
            }
        }
        return NONE;
    }

    public int all(int b, int what) {
        if (!isWind(b) || !within(what, 0, 1)) {
            return BAD;
        }
        if (what == 0) {
            return bay.countHolding(b);
        }
        bay.measureSwings(b);
        return bay.countMeeting();
    }

    public int count(int what) {
        switch (what) {
            case 0: return bay.columns;
            case 1: return bay.shipCount;
            case 2: return bay.hour;
            case 3: return bay.countAshore();
            case 4: return bay.countMoored();
            case 5: return bay.countLinksOut();
            case 6: return past.size;
            case 7: return text.length;
            default: return BAD;
        }
    }

    private void remember() {
        bay.save(past.rowForNext());
    }

    private static boolean within(int number, int least, int most) {
        return number >= least && number <= most;
    }

    private static boolean isWind(int b) {
        return within(b, 0, MOST_WIND);
    }

    private static int oneIf(boolean so) {
        return so ? 1 : 0;
    }

    /** THE TEXT. */
    private static final class Letters {
        private final char[] letters = new char[MOST_LETTERS];
        int length;

        boolean append(char letter) {
            if (length >= letters.length) {
                return false;
            }
            letters[length] = letter;
            length++;
            return true;
        }

        void clear() {
            length = 0;
        }

        /** Behind the end there is a sign that no ITEM has, so that readers need not ask for the end. */
        char letterAt(int place) {
            return place >= 0 && place < length && place < letters.length ? letters[place] : (char) 0;
        }
    }

    /** What a text tells; apart from the Bay, so that a text with a FAULT changes nothing there. */
    private static final class Plan {
        static final int NUMBERS_A_SHIP = 7;
        private static final int MOST_FIGURES = 3;
        private static final int MOST_DEPTH = 20;
        private static final int NO_NUMBER = -1;
        // X, Y, N, W, L, A, G; what X is at most is told by the COLUMNS ahead of it
        private static final int[] LEAST = {0, 0, 1, 1, 1, 1, 10};
        private static final int[] MOST = {0, LAST_ROW, MOST_LINKS, 5, 9, 9, 999};

        final int[] depths = new int[MOST_COLUMNS];
        final int[][] numbers = new int[MOST_SHIPS][NUMBERS_A_SHIP];
        int columns;
        int ships;
        private int place;

        /** FAULT, or NONE. */
        int read(Letters text) {
            columns = 0;
            ships = 0;
            place = 0;
            for (int items = 0; items < MOST_LETTERS && place < text.length; items++) {
                int first = place;
                if (!readItem(text)) {
                    return first;
                }
            }
            return NONE;
        }

        private boolean readItem(Letters text) {
            char kind = text.letterAt(place);
            place++;
            if (kind == 'c') {
                return readColumn(text);
            }
            return kind == 's' && readShip(text);
        }

        private boolean readColumn(Letters text) {
            int depth = readNumber(text);
            if (columns >= MOST_COLUMNS || !within(depth, 1, MOST_DEPTH) || !readSign(text, ';')) {
                return false;
            }
            depths[columns] = depth;
            columns++;
            return true;
        }

        private boolean readShip(Letters text) {
            if (ships >= MOST_SHIPS) {
                return false;
            }
            int[] row = numbers[ships];
            for (int i = 0; i < NUMBERS_A_SHIP; i++) {
                int most = i == 0 ? columns - 1 : MOST[i];
                char behind = i == NUMBERS_A_SHIP - 1 ? ';' : ',';
                row[i] = readNumber(text);
                if (!within(row[i], LEAST[i], most) || !readSign(text, behind)) {
                    return false;
                }
            }
            ships++;
            return true;
        }

        /** A figure beyond the third is left where it stands: no sign that must follow is one. */
        private int readNumber(Letters text) {
            int number = 0;
            int figures = 0;
            while (figures < MOST_FIGURES && within(text.letterAt(place), '0', '9')) {
                number = number * 10 + (text.letterAt(place) - '0');
                place++;
                figures++;
            }
            return figures == 0 ? NO_NUMBER : number;
        }

        private boolean readSign(Letters text, char sign) {
            if (text.letterAt(place) != sign) {
                return false;
            }
            place++;
            return true;
        }
    }

    private static final class Anchor {
        static final int NUMBERS = 3;

        int column;
        int row;
        int links;

        void put(int newColumn, int newRow, int newLinks) {
            column = newColumn;
            row = newRow;
            links = newLinks;
        }

        void save(int[] into, int at) {
            if (at < 0 || at > into.length - NUMBERS) {
                return;
            }
            into[at] = column;
            into[at + 1] = row;
            into[at + 2] = links;
        }

        void restore(int[] from, int at) {
            if (at < 0 || at > from.length - NUMBERS) {
                return;
            }
            put(from[at], from[at + 1], from[at + 2]);
        }
    }

    private static final class Ship {
        /** How many numbers of a SHIP a change can make others. */
        static final int NUMBERS = 2 * Anchor.NUMBERS + 3;

        final Anchor first = new Anchor();
        final Anchor second = new Anchor();
        boolean moored;
        boolean ashore;
        int dragged;
        int weight;
        int length;
        int area;
        int grip;
        /** SWING as measured last, so that a call over many pairs measures each SHIP once. */
        int swing;

        void layOut(int[] told) {
            if (told.length < Plan.NUMBERS_A_SHIP) {
                return;
            }
            first.put(told[0], told[1], told[2]);
            weight = told[3];
            length = told[4];
            area = told[5];
            grip = told[6];
            moored = false;
            ashore = false;
            dragged = 0;
        }

        /** null, if it has no SECOND one. */
        Anchor anchorAt(int which) {
            if (which == 0) {
                return first;
            }
            return moored ? second : null;
        }

        int pullBy(int wind) {
            return wind * wind * area / 4;
        }

        /** By the SWINGS that were measured last. */
        boolean isClearOf(Ship other) {
            if (ashore || other.ashore) {
                return true;
            }
            int x = TENTHS * (first.column - other.first.column);
            int y = TENTHS * (first.row - other.first.row);
            int room = swing + other.swing;
            return x * x + y * y >= room * room;
        }

        void save(int[] into, int at) {
            if (at < 0 || at > into.length - NUMBERS) {
                return;
            }
            first.save(into, at);
            second.save(into, at + Anchor.NUMBERS);
            int rest = at + 2 * Anchor.NUMBERS;
            into[rest] = oneIf(moored);
            into[rest + 1] = oneIf(ashore);
            into[rest + 2] = dragged;
        }

        void restore(int[] from, int at) {
            if (at < 0 || at > from.length - NUMBERS) {
                return;
            }
            first.restore(from, at);
            second.restore(from, at + Anchor.NUMBERS);
            int rest = at + 2 * Anchor.NUMBERS;
            moored = from[rest] == 1;
            ashore = from[rest + 1] == 1;
            dragged = from[rest + 2];
        }
    }

    /** One chain by one PULL, and how it lies; made once and used again for each question. */
    private static final class Chain {
        // the ROOT of all that the greatest PULL and the greatest weight give is below two times this
        private static final int GREATEST_BIT = 1 << 13;
        // below two times this is the greatest LIFT
        private static final int GREATEST_STEP = 1 << 9;
        // RUN by RISE: the ROOT of 100 less RISE times RISE
        private static final int[] RUNS = {10, 9, 9, 9, 9, 8, 8, 7, 6, 4, 0};

        int hang;
        int ground;
        int reach;
        int lift;
        boolean taut;
        private int pull;
        private int weight;
        private int links;
        private int depth;
        private int hung;
        private int risen;
        private int run;

        /** The depth is told by tenths. */
        void take(int newPull, int newWeight, int newLinks, int newDepth) {
            pull = newPull;
            weight = newWeight;
            links = newLinks;
            depth = newDepth;
        }

        /**
         * Whether its ANCHOR HOLDS: the chain must rise enough by the greatest LIFT that leaves the PULL
         * of the GRIP. No lesser LIFT need be looked for, since more LIFT never rises less: if v grows
         * by 1, the ROOT below it grows by 1 at most, and v is never more than that ROOT.
         */
        boolean holds(int grip) {
            if (pull == 0) {
                return true;
            }
            if (pull > grip) {
                return false;
            }
            climb((grip - pull) / 3);
            return risen >= depth;
        }

        int holding(int grip) {
            return taut ? 0 : Math.max(0, grip - 3 * lift);
        }

        void findLie() {
            climb(0);
            hang = hung;
            lift = 0;
            taut = false;
            if (risen < depth) {
                findLift();
            }
            ground = links - hang;
            reach = taut ? 0 : TENTHS * ground + run;
        }

        /**
         * By halving, as more LIFT never rises less; without any it is too little. By the least LIFT
         * no fewer than all LINKS rise enough: with one LIFT less they would, one LINK farther up.
         */
        private void findLift() {
            int tooLittle = 0;
            for (int step = GREATEST_STEP; step > 0; step >>= 1) {
                int tried = tooLittle + step;
                if (tried <= MOST_LIFT) {
                    climb(tried);
                    tooLittle = risen < depth ? tried : tooLittle;
                }
            }
            taut = tooLittle == MOST_LIFT;
            lift = Math.min(tooLittle + 1, MOST_LIFT);
            climb(lift);
        }

        /** Lets LINKS hang, from the lowest on, till they have risen the depth or there are no more. */
        private void climb(int lifted) {
            hung = 0;
            risen = 0;
            run = 0;
            int down = lifted;
            int slant = root(pull * pull + down * down);
            while (hung < links && risen < depth) {
                hung++;
                down += weight;
                slant = rootFrom(slant, weight, pull * pull + down * down);
                int rise = slant == 0 ? 0 : TENTHS * down / slant;
                risen += rise;
                run += rise >= 0 && rise < RUNS.length ? RUNS[rise] : 0;
            }
        }

        private static int root(int square) {
            int root = 0;
            for (int bit = GREATEST_BIT; bit > 0; bit >>= 1) {
                int tried = root + bit;
                if (tried * tried <= square) {
                    root = tried;
                }
            }
            return root;
        }

        /** The ROOT, known to be from this one on and few steps farther: a chain asks for very many. */
        private static int rootFrom(int least, int steps, int square) {
            int root = least;
            for (int i = 0; i < steps && (root + 1) * (root + 1) <= square; i++) {
                root++;
            }
            return root;
        }
    }

    /** The FIELD with the SHIPS on it. */
    private static final class Bay {
        static final int NUMBERS = 1 + MOST_SHIPS * Ship.NUMBERS;

        private final int[] depths = new int[MOST_COLUMNS];
        private final Ship[] ships = new Ship[MOST_SHIPS];
        private final Chain chain = new Chain();
        int columns;
        int shipCount;
        int hour;

        Bay() {
            for (int i = 0; i < ships.length; i++) {
                ships[i] = new Ship();
            }
        }

        void layOut(Plan plan) {
            columns = plan.columns;
            System.arraycopy(plan.depths, 0, depths, 0, MOST_COLUMNS);
            shipCount = Math.min(plan.ships, MOST_SHIPS);
            for (int i = 0; i < shipCount; i++) {
                ships[i].layOut(plan.numbers[i]);
            }
            hour = 0;
        }

        /** null, if there is no such SHIP. */
        Ship shipAt(int s) {
            return s >= 0 && s < shipCount && s < ships.length ? ships[s] : null;
        }

        boolean isCell(int column, int row) {
            return within(column, 0, columns - 1) && within(row, 0, LAST_ROW);
        }

        /** As told in THE TEXT. */
        int depthAt(int column) {
            return column >= 0 && column < depths.length ? depths[column] : 0;
        }

        Chain chainOf(Ship ship, Anchor anchor, int links, int pull) {
            chain.take(pull, ship.weight, links, TENTHS * depthAt(anchor.column));
            return chain;
        }

        /** With that many LINKS of the first ANCHOR; not for a SHIP ASHORE. */
        boolean holdsBy(Ship ship, int links, int wind) {
            int pull = ship.pullBy(wind);
            if (!ship.moored) {
                return firstHolds(ship, links, pull);
            }
            int half = (pull + 1) / 2;
            return firstHolds(ship, links, half) && secondHolds(ship, half)
                || firstHolds(ship, links, pull) || secondHolds(ship, pull);
        }

        private boolean firstHolds(Ship ship, int links, int pull) {
            return chainOf(ship, ship.first, links, pull).holds(ship.grip);
        }

        private boolean secondHolds(Ship ship, int pull) {
            return chainOf(ship, ship.second, ship.second.links, pull).holds(ship.grip);
        }

        /** With that many LINKS of the first ANCHOR; not for a SHIP ASHORE. */
        void measureSwing(Ship ship, int links, int wind) {
            chainOf(ship, ship.first, links, ship.pullBy(wind)).findLie();
            ship.swing = chain.reach + TENTHS * ship.length;
        }

        void measureSwings(int wind) {
            for (int i = 0; i < shipCount; i++) {
                measureSwing(ships[i], ships[i].first.links, wind);
            }
        }

        /** With that many LINKS of the first ANCHOR; by the SWINGS of the others that were measured last. */
        boolean isClearOfAll(Ship ship, int links, int wind) {
            measureSwing(ship, links, wind);
            for (int i = 0; i < shipCount; i++) {
                if (ships[i] != ship && !ship.isClearOf(ships[i])) {
                    return false;
                }
            }
            return true;
        }

        /** How many SHIPS come to be ASHORE in it. */
        int passHour(int wind, int side) {
            int stranded = 0;
            for (int i = 0; i < shipCount; i++) {
                Ship ship = ships[i];
                if (!ship.ashore && !holdsBy(ship, ship.first.links, wind)) {
                    drag(ship, side);
                    stranded += oneIf(ship.ashore);
                }
            }
            hour++;
            return stranded;
        }

        private void drag(Ship ship, int side) {
            int right = oneIf(side == 1) - oneIf(side == 3);
            int down = oneIf(side == 2) - oneIf(side == 0);
            Anchor first = ship.first;
            Anchor second = ship.second;
            boolean stays = isCell(first.column + right, first.row + down)
                && (!ship.moored || isCell(second.column + right, second.row + down));
            if (!stays) {
                ship.ashore = true;
                return;
            }
            first.put(first.column + right, first.row + down, first.links);
            if (ship.moored) {
                second.put(second.column + right, second.row + down, second.links);
            }
            ship.dragged++;
        }

        int countHolding(int wind) {
            int holding = 0;
            for (int i = 0; i < shipCount; i++) {
                Ship ship = ships[i];
                holding += oneIf(!ship.ashore && holdsBy(ship, ship.first.links, wind));
            }
            return holding;
        }

        /** Pairs whose ROOMS are not APART, by the SWINGS that were measured last. */
        int countMeeting() {
            int meeting = 0;
            for (int i = 0; i < shipCount; i++) {
                for (int j = i + 1; j < shipCount; j++) {
                    meeting += oneIf(!ships[i].isClearOf(ships[j]));
                }
            }
            return meeting;
        }

        int countAshore() {
            int ashore = 0;
            for (int i = 0; i < shipCount; i++) {
                ashore += oneIf(ships[i].ashore);
            }
            return ashore;
        }

        int countMoored() {
            int moored = 0;
            for (int i = 0; i < shipCount; i++) {
                moored += oneIf(ships[i].moored);
            }
            return moored;
        }

        int countLinksOut() {
            int out = 0;
            for (int i = 0; i < shipCount; i++) {
                Ship ship = ships[i];
                if (!ship.ashore) {
                    out += ship.first.links + (ship.moored ? ship.second.links : 0);
                }
            }
            return out;
        }

        void save(int[] into) {
            if (into.length < NUMBERS) {
                return;
            }
            into[0] = hour;
            for (int i = 0; i < shipCount; i++) {
                ships[i].save(into, 1 + i * Ship.NUMBERS);
            }
        }

        void restore(int[] from) {
            if (from.length < NUMBERS) {
                return;
            }
            hour = from[0];
            for (int i = 0; i < shipCount; i++) {
                ships[i].restore(from, 1 + i * Ship.NUMBERS);
            }
        }
    }

    /** How the Bay was ahead of each change that can be UNDONE; the oldest gives way. */
    private static final class Past {
        private final int[][] rows = new int[MOST_UNDONE][Bay.NUMBERS];
        private int next;
        int size;

        int[] rowForNext() {
            int[] row = rows[next];
            next = (next + 1) % MOST_UNDONE;
            size = Math.min(size + 1, MOST_UNDONE);
            return row;
        }

        /** null, if there is none. */
        int[] takeLatest() {
            if (size == 0) {
                return null;
            }
            size--;
            next = (next + MOST_UNDONE - 1) % MOST_UNDONE;
            return rows[next];
        }

        void clear() {
            size = 0;
        }
    }
}
