import java.util.Random;

/** Long runs of calls, the same each time, on the program and on PlainModel: the answers must be the same. */
public final class ModelTest {
    private static final int RUNS = 1000;
    private static final int CALLS = 512;

    private final Checks checks;
    private final Random random;
    private final ChainLays program = new ChainLays();
    private final PlainModel model = new PlainModel();
    private final String run;
    private int calls;

    private ModelTest(Checks checks, int seed) {
        this.checks = checks;
        this.random = new Random(seed);
        this.run = "run " + seed + " call ";
    }

    public static void main(String[] args) {
        Checks checks = new Checks("ModelTest");
        for (int seed = 0; seed < RUNS && !checks.anyWrong(); seed++) {
            new ModelTest(checks, seed).go();
        }
        checks.end();
    }

    private void go() {
        if (random.nextInt(5) > 0) {
            tellAndLay(goodText());
        }
        while (calls < CALLS) {
            int kind = random.nextInt(40);
            if (kind == 0 && calls < CALLS - 202) {
                tellAndLay(random.nextInt(3) == 0 ? goodText() : spoilt(goodText()));
            } else if (kind < 16) {
                change();
            } else if (kind < 20) {
                search();
            } else {
                ask();
            }
        }
    }

    private void due(String call, int got, int want) {
        calls++;
        checks.due(run + calls + " " + call, got, want);
    }

    private int number(int least, int most) {
        return least + random.nextInt(most - least + 1);
    }

    /** Mostly a number that is told, now and then one just beside it or far away. */
    private int near(int least, int most) {
        int way = random.nextInt(60);
        if (way == 0) {
            return least - 1;
        }
        if (way == 1) {
            return most + 1;
        }
        if (way == 2) {
            return random.nextBoolean() ? Integer.MAX_VALUE : Integer.MIN_VALUE;
        }
        if (way < 6) {
            return least;
        }
        return way < 9 ? most : number(least, most);
    }

    private int someShip() {
        int ships = model.count(1);
        return near(0, ships - 1);
    }

    private int someWind() {
        return near(0, 20);
    }

    private String goodText() {
        int columns = number(2, 20);
        int ships = number(1, 5);
        int deepest = random.nextInt(3) == 0 ? 20 : 6;
        StringBuilder text = new StringBuilder();
        for (int i = 0; i < columns; i++) {
            text.append('c').append(number(1, deepest)).append(';');
        }
        for (int i = 0; i < ships; i++) {
            text.append('s').append(number(0, columns - 1)).append(',').append(number(0, 19));
            text.append(',').append(number(1, random.nextBoolean() ? 12 : 60));
            text.append(',').append(number(1, 5)).append(',').append(number(1, 9));
            text.append(',').append(number(1, 9));
            text.append(',').append(number(10, random.nextBoolean() ? 150 : 999)).append(';');
        }
        return text.toString();
    }

    private String spoilt(String good) {
        StringBuilder text = new StringBuilder(good);
        String signs = "cs;,0123456789 x";
        int place = number(0, text.length() - 1);
        switch (random.nextInt(4)) {
            case 0 -> text.deleteCharAt(place);
            case 1 -> text.insert(place, signs.charAt(random.nextInt(signs.length())));
            case 2 -> text.setCharAt(place, signs.charAt(random.nextInt(signs.length())));
            default -> text.setLength(place);
        }
        return text.toString();
    }

    private void tellAndLay(String text) {
        due("wipe", program.wipe(), model.wipe());
        for (int i = 0; i < text.length(); i++) {
            int letter = text.charAt(i);
            due("write " + letter, program.write(letter), model.write(letter));
        }
        due("fault of " + text, program.fault(), model.fault());
        due("lay " + text, program.lay(), model.lay());
    }

    private void change() {
        int s = someShip();
        int n = random.nextBoolean() ? near(1, 60) : number(1, 12);
        switch (random.nextInt(8)) {
            case 0, 1 -> {
                int which = near(0, 1);
                due("links " + s + " " + which + " " + n, program.links(s, which, n), model.links(s, which, n));
            }
            case 2, 3 -> {
                int x = near(0, model.count(0) - 1);
                int y = near(0, 19);
                due("moor " + s + " " + x + " " + y + " " + n, program.moor(s, x, y, n), model.moor(s, x, y, n));
            }
            case 4 -> due("weigh " + s, program.weigh(s), model.weigh(s));
            case 5, 6 -> {
                int hours = random.nextInt(4) == 0 ? near(1, 24) : number(1, 3);
                int b = someWind();
                int side = near(0, 3);
                due("hours " + hours + " " + b + " " + side,
                    program.hours(hours, b, side), model.hours(hours, b, side));
            }
            default -> {
                for (int more = random.nextInt(8); more >= 0; more--) {
                    due("undo", program.undo(), model.undo());
                }
            }
        }
    }

    private void search() {
        int s = someShip();
        int b = someWind();
        switch (random.nextInt(3)) {
            case 0 -> due("fewest " + s + " " + b, program.fewest(s, b), model.fewest(s, b));
            case 1 -> due("tooMuch " + s, program.tooMuch(s), model.tooMuch(s));
            default -> due("close " + s + " " + b, program.close(s, b), model.close(s, b));
        }
    }

    private void ask() {
        int s = someShip();
        int b = someWind();
        switch (random.nextInt(8)) {
            case 0 -> {
                int which = near(0, 1);
                int what = near(0, 2);
                due("anchor " + s + " " + which + " " + what,
                    program.anchor(s, which, what), model.anchor(s, which, what));
            }
            case 1 -> {
                int what = near(0, 5);
                due("ship " + s + " " + what, program.ship(s, what), model.ship(s, what));
            }
            case 2, 3 -> {
                int which = near(0, 1);
                int h = random.nextInt(3) == 0 ? near(0, 9999) : number(0, 900);
                int what = near(0, 5);
                due("hangs " + s + " " + which + " " + h + " " + what,
                    program.hangs(s, which, h, what), model.hangs(s, which, h, what));
            }
            case 4 -> {
                int what = near(0, 2);
                due("wind " + s + " " + b + " " + what, program.wind(s, b, what), model.wind(s, b, what));
            }
            case 5 -> {
                int t = someShip();
                due("apart " + s + " " + t + " " + b, program.apart(s, t, b), model.apart(s, t, b));
            }
            case 6 -> {
                int what = near(0, 1);
                due("all " + b + " " + what, program.all(b, what), model.all(b, what));
            }
            default -> {
                int what = near(0, 7);
                due("count " + what, program.count(what), model.count(what));
            }
        }
    }
}
