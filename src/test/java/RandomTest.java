import java.util.Random;

/**
 * Runs of calls made up from fixed seeds, each answer held against Model's. Most numbers are
 * good ones, so that shows come to be; some are at the edges or far beyond them.
 */
public final class RandomTest {
    private static final int RUNS = 300;
    private static final int TEXT_RUNS = 4000;
    /** What an object answers behind its 512th call is free, so no run comes as far. */
    private static final int MOST_CALLS = 512;
    private static final int DEAREST_STEP = 110;
    private static final int[] ODD = {Integer.MIN_VALUE, -1000, -2, -1, 240, 241, 1000, Integer.MAX_VALUE};

    private final Check check;
    private final Random dice;
    private final SkyBox box = new SkyBox();
    private final Model model = new Model();
    private final String run;
    /** Whether the numbers are such that most ACTS can fly, and many ORDERS are alike. */
    private final boolean easy;
    private int calls = 0;

    private RandomTest(Check check, long seed, String name) {
        this.check = check;
        dice = new Random(seed);
        easy = dice.nextInt(4) != 0;
        run = name + " " + seed;
    }

    public static void main(String[] args) {
        Check check = new Check("RandomTest");
        for (int seed = 0; seed < RUNS && !check.hasFailed(); seed++) {
            new RandomTest(check, seed, "show").show();
        }
        for (int seed = 0; seed < TEXT_RUNS && !check.hasFailed(); seed++) {
            new RandomTest(check, seed, "text").text();
        }
        check.end();
    }

    private void due(String call, long got, long want) {
        calls++;
        check.due(run + ": " + call, got, want);
    }

    private int any(int least, int most) {
        return least + dice.nextInt(most - least + 1);
    }

    /** Nearly always within the bounds. */
    private int mostly(int least, int most) {
        int luck = dice.nextInt(60);
        if (luck == 0) {
            return ODD[dice.nextInt(ODD.length)];
        }
        return luck == 1 ? least - 1 : luck == 2 ? most + 1 : any(least, most);
    }

    private void show() {
        int acts = dice.nextInt(6) == 0 ? 6 : any(1, 5);
        for (int i = 0; i < acts; i++) {
            act();
            for (int figures = any(0, 4); figures >= 0; figures--) {
                figure(i);
            }
        }
        while (calls < MOST_CALLS - 2 * DEAREST_STEP) {
            switch (dice.nextInt(12)) {
                case 0 -> act();
                case 1 -> figure(mostly(0, 5));
                case 2 -> land();
                case 3, 4, 5 -> tell();
                case 6 -> rules();
                case 7 -> plan();
                case 8 -> ask();
                default -> small();
            }
        }
        plan();
    }

    private void act() {
        int kind = mostly(0, 3);
        int pilot = easy ? any(0, 2) : mostly(0, 7);
        int worth = easy ? 10 * any(0, 3) : mostly(0, 100);
        int climb = easy ? any(1, 6) : mostly(1, 20);
        int home = easy && dice.nextInt(4) != 0 ? any(1, 6) : mostly(1, 20);
        int fuel = easy ? any(25, 120) : mostly(1, 120);
        due("act", box.act(kind, pilot, worth, climb, home, fuel), model.act(kind, pilot, worth, climb, home, fuel));
    }

    private void figure(int act) {
        int minutes = mostly(1, 9);
        int speed = easy ? any(0, 12) : mostly(0, 20);
        int height = easy ? any(0, 4) : mostly(0, 9);
        boolean high = dice.nextInt(3) == 0;
        due("figure", box.figure(act, minutes, speed, height, high), model.figure(act, minutes, speed, height, high));
    }

    private void land() {
        switch (dice.nextInt(3)) {
            case 0 -> {
                int n = new int[] {10, 10, -1, 9, 11, 0}[dice.nextInt(6)];
                due("falls", box.falls(n) ? 1 : 0, model.falls(n) ? 1 : 0);
            }
            case 1 -> {
                int wind = mostly(0, 50);
                int line = easy ? any(60, 300) : mostly(0, 300);
                due("ground", box.ground(wind, line) ? 1 : 0, model.ground(wind, line) ? 1 : 0);
            }
            default -> {
                for (int i = 0; i < 6; i++) {
                    int cell = mostly(0, 9);
                    int v = easy ? any(0, 60) : mostly(0, 99);
                    due("cell", box.cell(cell, v) ? 1 : 0, model.cell(cell, v) ? 1 : 0);
                }
            }
        }
    }

    private void tell() {
        int a = mostly(0, 239);
        int length = dice.nextInt(4) == 0 && !easy ? any(0, 100) : any(0, 12);
        switch (dice.nextInt(4)) {
            case 0 -> {
                int v = easy ? any(4, 9) : mostly(0, 9);
                due("base", box.base(a, v), model.base(a, v));
            }
            case 1 -> due("birds", box.birds(a, a + length), model.birds(a, a + length));
            case 2 -> {
                int act = mostly(0, 5);
                int minute = easy ? any(0, 40) : a;
                due("ready", box.ready(act, minute), model.ready(act, minute));
            }
            default -> due("away", box.away(a, a + length), model.away(a, a + length));
        }
    }

    private void rules() {
        StringBuilder text = new StringBuilder();
        for (int i = any(0, 4); i > 0; i--) {
            text.append(rule());
        }
        put(text.toString());
    }

    private void put(String text) {
        for (int at = 0; at < text.length(); at += 20) {
            int[] w = new int[5];
            for (int i = 0; i < 5; i++) {
                w[i] = Check.word(text, at + 4 * i);
            }
            due("feed", box.feed(w[0], w[1], w[2], w[3], w[4]), model.feed(w));
        }
        int over = (20 - text.length() % 20) % 20;
        due("back", box.back(over), model.back(over));
        due("read of " + text, box.read(), model.read());
        due("place of " + text, box.place(), model.place());
        due("count(2) of " + text, box.count(2), model.count(2));
    }

    private String rule() {
        String end = dice.nextInt(3) == 0 ? "" : " if " + condition();
        String amount = easy ? any(0, 3) + new String[] {"", "*same", "+ahead", "*kind"}[dice.nextInt(4)] : sum(0);
        return switch (dice.nextInt(5)) {
            case 0, 1 -> "gap " + amount + end + ";";
            case 2, 3 -> "spare " + amount + end + ";";
            default -> "out if " + condition() + " and " + condition() + (easy ? " and minute<40" : "") + ";";
        };
    }

    private String condition() {
        String first = sum(1) + new String[] {"==", "!=", "<", "<="}[dice.nextInt(4)] + sum(1);
        return dice.nextInt(3) == 0 ? first + (dice.nextBoolean() ? " and " : " or ") + condition() : first;
    }

    private String sum(int depth) {
        String sum = unit(depth);
        while (dice.nextInt(3) == 0) {
            sum += new String[] {"+", "-", " * "}[dice.nextInt(3)] + unit(depth);
        }
        return sum;
    }

    private String unit(int depth) {
        String[] vars = {"act", "kind", "ahead", "same", "base", "minute", "wind", "length", "worth"};
        if (depth < 7 && dice.nextInt(6) == 0) {
            return "(" + sum(depth + 1) + ")";
        }
        return dice.nextBoolean() ? vars[dice.nextInt(vars.length)] : "" + (dice.nextInt(9) == 0 ? any(0, 9999) : any(0, 20));
    }

    private void plan() {
        int facts = model.count(1);
        int n = dice.nextInt(3) == 0 ? mostly(0, facts) : facts;
        if (dice.nextBoolean()) {
            due("plan(" + n + ")", box.plan(n), model.plan(n));
        } else {
            due("mend(" + n + ")", box.mend(n), model.mend(n));
        }
        state();
    }

    private void state() {
        for (int i = -1; i <= 6; i++) {
            due("order(" + i + ")", box.order(i), model.order(i));
        }
        for (int act = 0; act < model.count(0); act++) {
            for (int what = 0; what <= 4; what++) {
                due("told(" + act + ", " + what + ")", box.told(act, what), model.told(act, what));
            }
            runway(model.told(act, 0));
            runway(model.told(act, 3));
        }
        int act = mostly(0, 5);
        int what = mostly(0, 4);
        due("told(" + act + ", " + what + ")", box.told(act, what), model.told(act, what));
        for (int i = 0; i < 5; i++) {
            runway(mostly(0, 239));
        }
        for (int i = -1; i <= 8; i++) {
            due("count(" + i + ")", box.count(i), model.count(i));
        }
    }

    private void runway(int minute) {
        due("runway(" + minute + ")", box.runway(minute), model.runway(minute));
    }

    private void ask() {
        for (int i = 0; i < 5; i++) {
            int act = mostly(0, 5);
            int figure = mostly(0, 5);
            due("refused(" + act + ", " + figure + ")", box.refused(act, figure), model.refused(act, figure));
            int base = mostly(0, 9);
            due("length(" + act + ", " + base + ")", box.length(act, base), model.length(act, base));
            int n = mostly(0, model.count(1));
            int minute = mostly(0, 239);
            due("baseIn(" + minute + ", " + n + ")", box.baseIn(minute, n), model.baseIn(minute, n));
        }
    }

    private void small() {
        int n = mostly(0, model.count(1));
        int act = mostly(0, 5);
        int minute = mostly(0, 239);
        due("out(" + act + ", " + minute + ", " + n + ")", box.out(act, minute, n), model.out(act, minute, n));
        int[] order = new int[4];
        int size = any(1, 4);
        for (int i = 0; i < 4; i++) {
            order[i] = i < size || dice.nextInt(30) == 0 ? mostly(0, Math.max(0, model.count(0) - 1)) : -1;
        }
        due("can(" + order[0] + ", " + order[1] + ", " + order[2] + ", " + order[3] + ", " + n + ")",
                box.can(order[0], order[1], order[2], order[3], n), model.can(order[0], order[1], order[2], order[3], n));
    }

    /** A text of whole RULES, at times spoilt in a byte or cut. */
    private void text() {
        StringBuilder text = new StringBuilder();
        for (int i = dice.nextInt(10) == 0 ? any(14, 18) : any(0, 4); i > 0 && text.length() < 1500; i--) {
            text.append(rule());
        }
        String signs = ";+-*=!<()?>  \tagif019z\u0000\u00e9";
        for (int i = any(0, 2); i > 0 && text.length() > 0; i--) {
            int at = dice.nextInt(text.length());
            switch (dice.nextInt(3)) {
                case 0 -> text.deleteCharAt(at);
                case 1 -> text.insert(at, signs.charAt(dice.nextInt(signs.length())));
                default -> text.setCharAt(at, signs.charAt(dice.nextInt(signs.length())));
            }
        }
        if (dice.nextInt(5) == 0) {
            text.setLength(dice.nextInt(text.length() + 1));
        }
        if (text.length() <= 2000) {
            put(text.toString());
        }
    }
}
