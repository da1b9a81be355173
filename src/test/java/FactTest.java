/** Promises 11 to 14 and 17: FACTS, and BASE as KNOWN by some of them. */
public final class FactTest {
    private static final Check CHECK = new Check("FactTest");

    public static void main(String[] args) {
        numbers();
        wrongOnes();
        room();
        baseByMinute();
        wrongBaseIn();
        birdsAndRescue();
        ready();
        CHECK.end();
    }

    private static void numbers() {
        SkyBox box = new SkyBox();
        box.act(0, 0, 0, 1, 1, 1);
        CHECK.due("count(1) of a new one", box.count(1), 0);
        CHECK.due("base(0, 0)", box.base(0, 0), 0);
        CHECK.due("base(239, 9)", box.base(239, 9), 1);
        CHECK.due("birds(0, 1)", box.birds(0, 1), 2);
        CHECK.due("birds(239, 240)", box.birds(239, 240), 3);
        CHECK.due("ready(0, 0)", box.ready(0, 0), 4);
        CHECK.due("ready(0, 239)", box.ready(0, 239), 5);
        CHECK.due("away(0, 240)", box.away(0, 240), 6);
        CHECK.due("away(239, 240)", box.away(239, 240), 7);
        CHECK.due("count(1)", box.count(1), 8);
    }

    private static void wrongOnes() {
        SkyBox box = new SkyBox();
        box.act(0, 0, 0, 1, 1, 1);
        int[][] bases = {{-1, 0}, {240, 0}, {0, -1}, {0, 10}, {Integer.MIN_VALUE, 5}, {5, Integer.MAX_VALUE}};
        for (int[] w : bases) {
            CHECK.due("base(" + w[0] + ", " + w[1] + ")", box.base(w[0], w[1]), -1);
        }
        int[][] spans = {{-1, 5}, {5, 5}, {6, 5}, {5, 241}, {240, 240}, {240, 241}, {0, 0}, {-2, -1},
            {Integer.MIN_VALUE, 5}, {5, Integer.MAX_VALUE}, {Integer.MAX_VALUE, Integer.MIN_VALUE}};
        for (int[] w : spans) {
            CHECK.due("birds(" + w[0] + ", " + w[1] + ")", box.birds(w[0], w[1]), -1);
            CHECK.due("away(" + w[0] + ", " + w[1] + ")", box.away(w[0], w[1]), -1);
        }
        int[][] readies = {{-1, 5}, {1, 5}, {6, 5}, {0, -1}, {0, 240}, {Integer.MAX_VALUE, 5}};
        for (int[] w : readies) {
            CHECK.due("ready(" + w[0] + ", " + w[1] + ")", box.ready(w[0], w[1]), -1);
        }
        CHECK.due("nothing happened", box.count(1), 0);
    }

    private static void room() {
        SkyBox box = new SkyBox();
        box.act(0, 0, 0, 1, 1, 1);
        for (int i = 0; i < 100; i++) {
            CHECK.due("fact " + i, box.base(i, i % 10), i);
        }
        CHECK.due("a 101st base", box.base(0, 1), -1);
        CHECK.due("a 101st of birds", box.birds(0, 1), -1);
        CHECK.due("a 101st ready", box.ready(0, 1), -1);
        CHECK.due("a 101st away", box.away(0, 1), -1);
        CHECK.due("count(1)", box.count(1), 100);
        CHECK.due("as known by 100", box.baseIn(99, 100), 9);
        CHECK.due("as known by 99", box.baseIn(99, 99), 8);
        CHECK.due("as known by 101", box.baseIn(99, 101), -1);
    }

    private static void baseByMinute() {
        SkyBox box = new SkyBox();
        CHECK.due("9 without", box.baseIn(0, 0), 9);
        box.base(100, 4);
        box.base(50, 6);
        box.birds(0, 240);
        box.base(100, 2);
        box.base(100, 3);
        box.base(0, 0);
        CHECK.due("known by 0", box.baseIn(150, 0), 9);
        CHECK.due("known by 1, ahead of it", box.baseIn(99, 1), 9);
        CHECK.due("known by 1, in it", box.baseIn(100, 1), 4);
        CHECK.due("known by 1, late", box.baseIn(239, 1), 4);
        CHECK.due("a later one told ahead stays", box.baseIn(100, 2), 4);
        CHECK.due("between the two", box.baseIn(99, 2), 6);
        CHECK.due("the first minute of it", box.baseIn(50, 2), 6);
        CHECK.due("ahead of both", box.baseIn(49, 2), 9);
        CHECK.due("other facts do nothing", box.baseIn(100, 3), 4);
        CHECK.due("of one minute the last told", box.baseIn(100, 4), 2);
        CHECK.due("and again", box.baseIn(239, 5), 3);
        CHECK.due("minute 0", box.baseIn(0, 5), 9);
        CHECK.due("minute 0 told", box.baseIn(0, 6), 0);
        CHECK.due("till the next", box.baseIn(49, 6), 0);
        CHECK.due("the next", box.baseIn(50, 6), 6);
    }

    private static void wrongBaseIn() {
        SkyBox box = new SkyBox();
        box.base(5, 5);
        int[][] wrong = {{-1, 0}, {240, 0}, {0, -1}, {0, 2}, {Integer.MIN_VALUE, 1}, {5, Integer.MAX_VALUE}};
        for (int[] w : wrong) {
            CHECK.due("baseIn(" + w[0] + ", " + w[1] + ")", box.baseIn(w[0], w[1]), -1);
        }
    }

    /** One ACT of 5 MINUTES that could begin in MINUTE 1. */
    private static SkyBox oneAct() {
        SkyBox box = new SkyBox();
        box.act(0, 0, 7, 1, 1, 100);
        box.figure(0, 5, 0, 0, false);
        return box;
    }

    private static void birdsAndRescue() {
        for (int round = 0; round < 2; round++) {
            SkyBox box = oneAct();
            String name = round == 0 ? "birds" : "away";
            tellSpan(box, round, 6, 7);
            tellSpan(box, round, 13, 20);
            tellSpan(box, round, 0, 8);
            tellSpan(box, round, 8, 9);
            box.plan(0);
            CHECK.due(name + " not known", box.told(0, 1), 1);
            box.plan(1);
            CHECK.due(name + " just behind it", box.told(0, 1), 1);
            box.plan(3);
            CHECK.due(name + " up to 7 and from 13 on", box.told(0, 1), 8);
            box.plan(4);
            CHECK.due(name + " up to 8 and from 13 on", box.told(0, 1), 20);
            tellSpan(box, round, 30, 240);
            CHECK.due("out has nothing to do with " + name, box.can(0, -1, -1, -1, 5), 7);
            tellSpan(box, round, 24, 25);
            box.plan(6);
            CHECK.due(name + " in its last minute", box.told(0, 1), 25);
            tellSpan(box, round, 25, 26);
            CHECK.due(name + " leave no room", box.can(0, -1, -1, -1, 7), -2);
        }
    }

    private static void tellSpan(SkyBox box, int round, int a, int b) {
        if (round == 0) {
            box.birds(a, b);
        } else {
            box.away(a, b);
        }
    }

    private static void ready() {
        SkyBox box = oneAct();
        box.ready(0, 50);
        box.ready(0, 20);
        box.ready(0, 232);
        box.ready(0, 233);
        box.plan(1);
        CHECK.due("takes off when it is ready", box.told(0, 0), 50);
        CHECK.due("begins behind its climb", box.told(0, 1), 51);
        box.plan(2);
        CHECK.due("the latest told counts", box.told(0, 0), 20);
        box.plan(0);
        CHECK.due("ready at once, if not told", box.told(0, 0), 0);
        box.plan(3);
        CHECK.due("it lands in the last minute", box.told(0, 3), 239);
        CHECK.due("or not at all", box.plan(4), 0);
        CHECK.due("can't be then", box.can(0, -1, -1, -1, 4), -2);
    }
}
