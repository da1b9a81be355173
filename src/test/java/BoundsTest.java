/**
 * Bounds of all numbers that calls are given: the last value that is taken and the first that is
 * refused, on both sides, and that nothing happens then, as all later calls show (Twin).
 */
public final class BoundsTest {
    private static final Check CHECK = new Check("BoundsTest");
    private static final Twin EMPTY = new Twin(CHECK, "a new one", box -> { });
    private static final Twin SOME = new Twin(CHECK, "a show", BoundsTest::show);
    private static final Twin FULL = new Twin(CHECK, "a full one", BoundsTest::fullShow);

    public static void main(String[] args) {
        actNumbers();
        figureNumbers();
        sixActs();
        sixFigures();
        fallsNumbers();
        cellNumbers();
        groundNumbers();
        factNumbers();
        spans();
        hundredFacts();
        tapeNumbers();
        knownNumbers();
        nothingIsPlanned();
        askedNumbers();
        askedOfNothing();
        orderNumbers();
        CHECK.end();
    }

    /** Three ACTS (the last with six FIGURES), five FACTS, three RULES, a plan, a FAULT, 30 bytes on the tape. */
    private static void show(SkyBox box) {
        box.act(1, 1, 10, 5, 4, 60);
        box.figure(0, 5, 10, 3, false);
        box.figure(0, 3, 10, 7, true);
        box.act(2, 2, 20, 3, 2, 50);
        box.figure(1, 6, 20, 2, false);
        box.act(1, 1, 5, 2, 2, 40);
        for (int i = 0; i < 6; i++) {
            box.figure(2, 1 + i % 2, 5 + i, i, i > 3);
        }
        box.ground(5, 90);
        box.falls(10);
        box.cell(3, 50);
        box.cell(7, 20);
        box.base(60, 5);
        box.birds(20, 30);
        box.ready(0, 12);
        box.away(100, 110);
        box.base(120, 8);
        Check.read(box, "gap 2 if kind==ahead; spare 3; out if act==1 and minute<40;");
        box.plan(5);
        Check.read(box, "gap 1 gap 2;");
        Check.feed(box, "gap 1; gap 2; gap 3; gap 4; ga");
    }

    private static void fullActs(SkyBox box) {
        for (int act = 0; act < 6; act++) {
            box.act(act % 4, act % 3, 10 + act, 1 + act, 6 - act, 60);
            for (int i = 0; i < 6; i++) {
                box.figure(act, 1 + i % 2, 2 * i, i, i > 3);
            }
        }
    }

    /** Six ACTS of six FIGURES, 100 FACTS, 16 RULES, and a plan. */
    private static void fullShow(SkyBox box) {
        fullActs(box);
        for (int i = 0; i < 100; i++) {
            box.base(2 * i, 7 + i % 3);
        }
        Check.read(box, "gap 1;".repeat(15) + "out if act==5;");
        box.plan(100);
    }

    /** KIND (0 .. 3), PILOT (0 .. 7), WORTH (0 .. 100), CLIMB (1 .. 20), HOME (1 .. 20), FUEL (1 .. 120). */
    private static void actNumbers() {
        int[][] limits = {{0, 3}, {0, 7}, {0, 100}, {1, 20}, {1, 20}, {1, 120}};
        for (int i = 0; i < limits.length; i++) {
            SOME.bounds("act", i, limits[i][0], limits[i][1], 1, 1, 10, 2, 2, 60);
            EMPTY.bounds("act", i, limits[i][0], limits[i][1], 1, 1, 10, 2, 2, 60);
        }
    }

    /** MINUTES (1 .. 9), a SPEED (0 .. 20), a HEIGHT (0 .. 9), of an ACT that is there. */
    private static void figureNumbers() {
        for (int high = 0; high < 2; high++) {
            SOME.bounds("figure", 0, 0, 1, 0, 3, 10, 3, high);
            // ACT 2 is there, but has six
            SOME.refused("figure", 2, 3, 10, 3, high);
            SOME.refused("figure", 3, 3, 10, 3, high);
            SOME.bounds("figure", 1, 1, 9, 0, 3, 10, 3, high);
            SOME.bounds("figure", 2, 0, 20, 0, 3, 10, 3, high);
            SOME.bounds("figure", 3, 0, 9, 0, 3, 10, 3, high);
        }
        EMPTY.refused("figure", 0, 3, 10, 3, 0);
    }

    /** ACTS, 6 at most, numbered from 0 on. */
    private static void sixActs() {
        SkyBox box = new SkyBox();
        for (int i = 0; i < 6; i++) {
            CHECK.due("act number " + i, box.act(0, 0, 1, 1, 1, 1), i);
            CHECK.due("there are then", box.count(0), i + 1);
        }
        CHECK.due("a seventh", box.act(0, 0, 1, 1, 1, 1), -1);
        CHECK.due("there are still", box.count(0), 6);
        CHECK.due("length of the sixth", box.length(5, 9), 0);
        CHECK.due("length of a seventh", box.length(6, 9), -1);
        FULL.refused("act", 1, 1, 10, 2, 2, 60);
        FULL.refused("act", 0, 0, 0, 1, 1, 1);
        FULL.refused("act", 3, 7, 100, 20, 20, 120);
    }

    /** FIGURES of an ACT, 6 at most, numbered from 0 on. */
    private static void sixFigures() {
        SkyBox box = new SkyBox();
        box.act(0, 0, 1, 1, 1, 1);
        box.act(0, 0, 1, 1, 1, 1);
        for (int i = 0; i < 6; i++) {
            CHECK.due("figure number " + i, box.figure(1, 1, 0, 0, false), i);
            CHECK.due("the act has minutes", box.length(1, 9), i + 1);
        }
        CHECK.due("a seventh", box.figure(1, 1, 0, 0, false), -1);
        CHECK.due("it has no more", box.length(1, 9), 6);
        CHECK.due("the first of the other", box.figure(0, 1, 0, 0, false), 0);
        for (int act = 0; act < 6; act++) {
            FULL.refused("figure", act, 1, 0, 0, act % 2);
        }
    }

    /** FALLS become a row of ten 0s, or MISSING; n 10 or NONE: true; false for others. */
    private static void fallsNumbers() {
        for (Twin each : new Twin[] {EMPTY, SOME}) {
            each.taken("falls", 10);
            each.taken("falls", -1);
            for (int n : new int[] {9, 11, 0, 1, -2, 100, Integer.MIN_VALUE, Integer.MAX_VALUE}) {
                each.refused("falls", n);
            }
        }
    }

    /** Cell i of FALLS becomes v; false: there is none such, v is not 0 .. 99. */
    private static void cellNumbers() {
        SOME.bounds("cell", 0, 0, 9, 5, 50);
        SOME.bounds("cell", 1, 0, 99, 5, 50);
        EMPTY.refused("cell", 0, 0);
        EMPTY.refused("cell", 5, 50);
        new Twin(CHECK, "falls missing again", box -> {
            show(box);
            box.falls(-1);
        }).refused("cell", 3, 99);
    }

    /** WIND (0 .. 50; 0 at first). The LINE (0 .. 300; 100 at first). Of a wrong pair neither is taken. */
    private static void groundNumbers() {
        for (Twin each : new Twin[] {EMPTY, SOME}) {
            each.bounds("ground", 0, 0, 50, 7, 70);
            each.bounds("ground", 1, 0, 300, 7, 70);
            each.refused("ground", 51, 301);
            each.refused("ground", -1, -1);
        }
        SkyBox box = new SkyBox();
        CHECK.due("WIND at first", box.count(6), 0);
        CHECK.due("LINE at first", box.count(7), 100);
    }

    /** From a MINUTE (0 .. 239) on BASE is v (0 .. 9); an ACT is not READY ahead of a MINUTE. */
    private static void factNumbers() {
        SOME.bounds("base", 0, 0, 239, 5, 5);
        SOME.bounds("base", 1, 0, 9, 5, 5);
        EMPTY.bounds("base", 0, 0, 239, 5, 5);
        EMPTY.bounds("base", 1, 0, 9, 5, 5);
        SOME.bounds("ready", 0, 0, 2, 1, 5);
        SOME.bounds("ready", 1, 0, 239, 1, 5);
        EMPTY.refused("ready", 0, 5);
        EMPTY.refused("ready", -1, 5);
    }

    /** NONE, and nothing happens: a not 0 .. b - 1, b above 240. */
    private static void spans() {
        for (String method : new String[] {"birds", "away"}) {
            for (Twin each : new Twin[] {EMPTY, SOME}) {
                each.bounds(method, 0, 0, 49, 7, 50);
                each.bounds(method, 1, 8, 240, 7, 50);
                each.taken(method, 0, 1);
                each.taken(method, 0, 240);
                each.taken(method, 239, 240);
                int[][] wrong = {{0, 0}, {240, 240}, {240, 241}, {239, 239}, {-1, 0}, {-1, 240}, {0, 241}, {10, 5},
                    {Integer.MIN_VALUE, Integer.MAX_VALUE}, {Integer.MAX_VALUE, Integer.MIN_VALUE}};
                for (int[] span : wrong) {
                    each.refused(method, span);
                }
            }
        }
    }

    /** FACTS, numbered from 0 on, 100 at most; NONE, and nothing happens: 100 are there. */
    private static void hundredFacts() {
        SkyBox box = new SkyBox();
        box.act(0, 0, 1, 1, 1, 1);
        for (int i = 0; i < 100; i++) {
            int number = i % 4 == 0 ? box.base(i, 5) : i % 4 == 1 ? box.birds(i, i + 1)
                    : i % 4 == 2 ? box.ready(0, i) : box.away(i, i + 1);
            CHECK.due("fact number " + i, number, i);
            CHECK.due("there are then", box.count(1), i + 1);
        }
        CHECK.due("a 101st", box.base(0, 0), -1);
        CHECK.due("there are still", box.count(1), 100);
        FULL.refused("base", 0, 0);
        FULL.refused("base", 239, 1);
        FULL.refused("birds", 0, 240);
        FULL.refused("ready", 0, 239);
        FULL.refused("away", 0, 240);
    }

    /** The last n bytes go. NONE, and nothing goes, if it has not so many, or n is below 0. */
    private static void tapeNumbers() {
        SOME.bounds("back", 0, 0, 30, 7);
        EMPTY.bounds("back", 0, 0, 0, 0);
        int blank = 0x20202020;
        for (int over = 0; over < 20; over++) {
            int gone = over;
            Twin full = new Twin(CHECK, "a tape of " + (2000 - over), box -> {
                for (int i = 0; i < 100; i++) {
                    box.feed(blank, blank, blank, blank, blank);
                }
                box.back(gone);
            });
            full.refused("feed", -1, -1, -1, -1, -1);
            full.refused("feed", blank, blank, blank, blank, blank);
        }
    }

    /** As KNOWN by n the first n of them are; no such n: below 0, above how many there are. */
    private static void knownNumbers() {
        SOME.bounds("plan", 0, 0, 5, 2);
        SOME.bounds("mend", 0, 0, 5, 2);
        SOME.bounds("baseIn", 1, 0, 5, 100, 2);
        SOME.bounds("can", 4, 0, 5, 0, -1, -1, -1, 2);
        SOME.bounds("out", 2, 0, 5, 1, 39, 2);
        FULL.bounds("plan", 0, 0, 100, 50);
        FULL.bounds("mend", 0, 0, 100, 50);
        FULL.bounds("baseIn", 1, 0, 100, 100, 2);
        EMPTY.bounds("plan", 0, 0, 0, 0);
        EMPTY.bounds("baseIn", 1, 0, 0, 100, 0);
    }

    /** mend: NONE, and nothing happens: nothing is PLANNED. */
    private static void nothingIsPlanned() {
        EMPTY.refused("mend", 0);
        EMPTY.refused("mend", 1);
        Twin unplanned = new Twin(CHECK, "not planned yet", box -> {
            box.act(0, 0, 10, 1, 1, 60);
            box.figure(0, 5, 0, 0, false);
            box.birds(1, 5);
        });
        unplanned.refused("mend", 0);
        unplanned.refused("mend", 1);
        unplanned.refused("plan", 2);
        unplanned.refused("plan", -1);
    }

    /** Calls that only ask: NONE for what is not there, and nothing happens. */
    private static void askedNumbers() {
        SOME.bounds("refused", 0, 0, 2, 1, 0);
        SOME.bounds("refused", 1, 0, 1, 0, 0);
        SOME.bounds("refused", 1, 0, 0, 1, 0);
        SOME.bounds("refused", 1, 0, 5, 2, 0);
        SOME.bounds("length", 0, 0, 2, 1, 5);
        SOME.bounds("length", 1, 0, 9, 1, 5);
        SOME.bounds("baseIn", 0, 0, 239, 5, 5);
        SOME.bounds("order", 0, 0, 2, 0);
        SOME.bounds("told", 0, 0, 2, 1, 0);
        SOME.bounds("told", 1, 0, 4, 1, 0);
        SOME.refusedBeyond("out", 0, 0, 2, 1, 39, 5);
        SOME.refusedBeyond("out", 1, 0, 239, 1, 39, 5);
        SOME.refusedBeyond("runway", 0, 0, 239, 0);
        SOME.bounds("count", 0, 0, 7, 0);
        FULL.bounds("refused", 0, 0, 5, 1, 0);
        FULL.bounds("length", 0, 0, 5, 1, 5);
    }

    private static void askedOfNothing() {
        EMPTY.refused("refused", 0, 0);
        EMPTY.refused("length", 0, 9);
        EMPTY.refused("order", 0);
        EMPTY.refused("told", 0, 0);
        EMPTY.refused("out", 0, 0, 0);
        EMPTY.refused("can", 0, -1, -1, -1, 0);
        EMPTY.refused("runway", 0);
        EMPTY.refused("count", 3);
        EMPTY.refused("count", 4);
        EMPTY.refused("place");
    }

    /** An ORDER of 1 .. 4 ACTS (b, c, d NONE: none more, and none behind it); NONE: no such ones, one twice. */
    private static void orderNumbers() {
        Twin four = new Twin(CHECK, "six acts", BoundsTest::fullActs);
        int[] none = {-1, -1, -1, -1, 0};
        for (int size = 1; size <= 4; size++) {
            int[] order = none.clone();
            for (int i = 0; i < size; i++) {
                order[i] = i;
            }
            four.taken("can", order);
            int[] last = order.clone();
            last[size - 1] = 5;
            four.taken("can", last);
            for (int wrong : new int[] {6, -2, Integer.MIN_VALUE, Integer.MAX_VALUE}) {
                last[size - 1] = wrong;
                four.refused("can", last);
            }
            for (int other = 0; other < size - 1; other++) {
                last[size - 1] = other;
                four.refused("can", last);
            }
        }
        int[][] holes = {{-1, -1, -1, -1, 0}, {-1, 0, -1, -1, 0}, {-1, 0, 1, 2, 0}, {0, -1, 1, -1, 0}, {0, -1, -1, 1, 0},
            {0, -1, 1, 2, 0}, {0, 1, -1, 2, 0}, {0, 1, 1, -1, 0}, {0, 1, 2, 1, 0}, {0, 0, 0, 0, 0}};
        for (int[] each : holes) {
            four.refused("can", each);
        }
    }
}
