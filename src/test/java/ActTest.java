/** Promises 6 to 10, 15 and 16: ACTS, FIGURES, FALLS, the ground, REFUSED and LENGTH. */
public final class ActTest {
    private static final Check CHECK = new Check("ActTest");
    private static final int LEAST = Integer.MIN_VALUE;
    private static final int MOST = Integer.MAX_VALUE;

    public static void main(String[] args) {
        acts();
        wrongActs();
        figures();
        wrongFigures();
        groundNumbers();
        fallsAndCells();
        refusedByTheLine();
        refusedByHeight();
        lengthHighOrFlat();
        lengthWithRefused();
        lengthAtTheEdges();
        CHECK.end();
    }

    private static void acts() {
        SkyBox box = new SkyBox();
        CHECK.due("count(0) of a new one", box.count(0), 0);
        CHECK.due("the least act", box.act(0, 0, 0, 1, 1, 1), 0);
        CHECK.due("the greatest act", box.act(3, 7, 100, 20, 20, 120), 1);
        for (int i = 2; i < 6; i++) {
            CHECK.due("act " + i, box.act(1, 1, 1, 1, 1, 1), i);
        }
        CHECK.due("a seventh", box.act(1, 1, 1, 1, 1, 1), -1);
        CHECK.due("count(0)", box.count(0), 6);
        CHECK.due("an act has no figures", box.refused(0, 0), -1);
        CHECK.due("and can't fly", box.length(0, 9), 0);
    }

    private static void wrongActs() {
        int[][] wrong = {{4, 0, 0, 1, 1, 1}, {-1, 0, 0, 1, 1, 1}, {0, 8, 0, 1, 1, 1}, {0, -1, 0, 1, 1, 1},
            {0, 0, 101, 1, 1, 1}, {0, 0, -1, 1, 1, 1}, {0, 0, 0, 0, 1, 1}, {0, 0, 0, 21, 1, 1},
            {0, 0, 0, 1, 0, 1}, {0, 0, 0, 1, 21, 1}, {0, 0, 0, 1, 1, 0}, {0, 0, 0, 1, 1, 121},
            {LEAST, 0, 0, 1, 1, 1}, {0, MOST, 0, 1, 1, 1}, {0, 0, 0, 1, 1, MOST}};
        SkyBox box = new SkyBox();
        for (int i = 0; i < wrong.length; i++) {
            int[] w = wrong[i];
            CHECK.due("wrong act " + i, box.act(w[0], w[1], w[2], w[3], w[4], w[5]), -1);
        }
        CHECK.due("nothing happened", box.count(0), 0);
    }

    private static void figures() {
        SkyBox box = new SkyBox();
        box.act(0, 0, 0, 1, 1, 1);
        box.act(0, 0, 0, 1, 1, 1);
        CHECK.due("the least figure", box.figure(0, 1, 0, 0, false), 0);
        CHECK.due("the greatest figure", box.figure(0, 9, 20, 9, true), 1);
        for (int i = 2; i < 6; i++) {
            CHECK.due("figure " + i, box.figure(0, 1, 1, 1, false), i);
        }
        CHECK.due("a seventh", box.figure(0, 1, 1, 1, false), -1);
        CHECK.due("each act has its own", box.figure(1, 1, 1, 1, false), 0);
        CHECK.due("the sixth is there", box.refused(0, 5), 0);
        CHECK.due("no seventh is there", box.refused(0, 6), -1);
        CHECK.due("one of the other", box.refused(1, 0), 0);
        CHECK.due("no second of the other", box.refused(1, 1), -1);
    }

    private static void wrongFigures() {
        int[][] wrong = {{1, 1, 1, 1}, {-1, 1, 1, 1}, {6, 1, 1, 1}, {LEAST, 1, 1, 1}, {MOST, 1, 1, 1},
            {0, 0, 1, 1}, {0, 10, 1, 1}, {0, 1, -1, 1}, {0, 1, 21, 1}, {0, 1, 1, -1}, {0, 1, 1, 10}};
        SkyBox box = new SkyBox();
        box.act(0, 0, 0, 1, 1, 1);
        for (int i = 0; i < wrong.length; i++) {
            int[] w = wrong[i];
            CHECK.due("wrong figure " + i, box.figure(w[0], w[1], w[2], w[3], true), -1);
        }
        CHECK.due("nothing happened", box.figure(0, 1, 1, 1, true), 0);
        CHECK.due("refused of no act", box.refused(1, 0), -1);
        CHECK.due("refused of act -1", box.refused(-1, 0), -1);
        CHECK.due("refused of figure -1", box.refused(0, -1), -1);
        CHECK.due("refused of the most", box.refused(MOST, MOST), -1);
    }

    private static void groundNumbers() {
        SkyBox box = new SkyBox();
        CHECK.due("WIND at first", box.count(6), 0);
        CHECK.due("LINE at first", box.count(7), 100);
        int[][] wrong = {{-1, 100}, {51, 100}, {0, -1}, {0, 301}, {LEAST, 0}, {0, MOST}};
        for (int i = 0; i < wrong.length; i++) {
            CHECK.due("wrong ground " + i, box.ground(wrong[i][0], wrong[i][1]), false);
            CHECK.due("WIND stays", box.count(6), 0);
            CHECK.due("LINE stays", box.count(7), 100);
        }
        CHECK.due("ground(50, 300)", box.ground(50, 300), true);
        CHECK.due("WIND", box.count(6), 50);
        CHECK.due("LINE", box.count(7), 300);
        CHECK.due("ground(0, 0)", box.ground(0, 0), true);
        CHECK.due("WIND again", box.count(6), 0);
        CHECK.due("LINE again", box.count(7), 0);
    }

    private static void fallsAndCells() {
        SkyBox box = new SkyBox();
        box.act(0, 0, 0, 1, 1, 1);
        box.figure(0, 1, 10, 3, false);
        CHECK.due("cell of a missing row", box.cell(0, 0), false);
        for (int n : new int[] {0, 1, 9, 11, -2, LEAST, MOST}) {
            CHECK.due("falls(" + n + ")", box.falls(n), false);
        }
        CHECK.due("still missing", box.cell(0, 0), false);
        CHECK.due("falls(10)", box.falls(10), true);
        for (int i = 0; i < 10; i++) {
            CHECK.due("cell " + i, box.cell(i, 99), true);
        }
        int[][] wrong = {{-1, 5}, {10, 5}, {0, -1}, {0, 100}, {LEAST, 5}, {MOST, 5}, {5, LEAST}, {5, MOST}};
        for (int i = 0; i < wrong.length; i++) {
            CHECK.due("wrong cell " + i, box.cell(wrong[i][0], wrong[i][1]), false);
        }
        box.ground(0, 99);
        CHECK.due("10 * 99 / 10 is as far as 99", box.refused(0, 0), 1);
        CHECK.due("falls(9) changes nothing", box.falls(9), false);
        CHECK.due("the cells stay", box.refused(0, 0), 1);
        CHECK.due("falls(10) again", box.falls(10), true);
        CHECK.due("a row of 0s", box.refused(0, 0), 0);
        CHECK.due("cell(3, 98)", box.cell(3, 98), true);
        CHECK.due("98 is not as far as 99", box.refused(0, 0), 0);
        CHECK.due("cell(3, 0)", box.cell(3, 0), true);
        CHECK.due("falls(NONE)", box.falls(-1), true);
        box.ground(0, 20);
        CHECK.due("20 for each cell of a missing row", box.refused(0, 0), 1);
        box.ground(0, 21);
        CHECK.due("and no more than that", box.refused(0, 0), 0);
        CHECK.due("no cell in a missing row", box.cell(3, 5), false);
    }

    private static void refusedByTheLine() {
        SkyBox box = new SkyBox();
        box.act(0, 0, 0, 1, 1, 1);
        box.figure(0, 1, 7, 2, false);
        box.falls(10);
        box.cell(2, 17);
        // 7 * 17 = 119, by 10 rounded down: 11
        box.ground(0, 12);
        CHECK.due("11 of 12", box.refused(0, 0), 0);
        box.ground(0, 11);
        CHECK.due("11 of 11", box.refused(0, 0), 1);
        box.ground(1, 12);
        CHECK.due("11 and a wind of 1 of 12", box.refused(0, 0), 1);
        box.ground(50, 62);
        CHECK.due("61 of 62", box.refused(0, 0), 0);
        box.ground(50, 61);
        CHECK.due("61 of 61", box.refused(0, 0), 1);
        box.cell(2, 0);
        box.ground(0, 0);
        CHECK.due("0 of 0", box.refused(0, 0), 1);
        box.ground(0, 1);
        CHECK.due("0 of 1", box.refused(0, 0), 0);
    }

    private static void refusedByHeight() {
        SkyBox box = new SkyBox();
        box.act(0, 0, 0, 1, 1, 1);
        for (int height = 0; height < 6; height++) {
            box.figure(0, 1, 10, height, false);
        }
        box.falls(10);
        box.ground(0, 40);
        for (int height = 0; height < 10; height++) {
            box.cell(height, 10 * height);
        }
        for (int height = 0; height < 6; height++) {
            CHECK.due("a figure in height " + height, box.refused(0, height), height >= 4 ? 1 : 0);
        }
        for (int height = 0; height < 10; height++) {
            box.cell(height, 90 - 10 * height);
        }
        box.ground(0, 70);
        for (int height = 0; height < 6; height++) {
            CHECK.due("a figure in height " + height, box.refused(0, height), height <= 2 ? 1 : 0);
        }
        box.falls(10);
        box.ground(0, 1);
        for (int height = 0; height < 6; height++) {
            CHECK.due("0 is not as far as 1 in height " + height, box.refused(0, height), 0);
        }
        SkyBox top = new SkyBox();
        top.act(0, 0, 0, 1, 1, 1);
        top.figure(0, 1, 20, 9, false);
        top.falls(10);
        top.cell(9, 99);
        top.ground(50, 248);
        CHECK.due("the farthest of all", top.refused(0, 0), 1);
        top.ground(50, 249);
        CHECK.due("and no farther", top.refused(0, 0), 0);
    }

    private static void lengthHighOrFlat() {
        SkyBox box = new SkyBox();
        box.act(0, 0, 0, 1, 1, 1);
        box.figure(0, 5, 0, 3, false);
        box.figure(0, 3, 0, 7, true);
        box.figure(0, 2, 0, 1, true);
        box.figure(0, 1, 0, 2, false);
        int[] due = {0, 0, 0, 0, 6, 6, 6, 6, 11, 11};
        for (int base = 0; base < 10; base++) {
            CHECK.due("length(0, " + base + ")", box.length(0, base), due[base]);
        }
        box.figure(0, 9, 0, 9, true);
        CHECK.due("height 9 is never below", box.length(0, 9), 6);
        box.figure(0, 9, 0, 9, false);
        CHECK.due("and can't be flown flat", box.length(0, 9), 0);
    }

    private static void lengthWithRefused() {
        SkyBox box = new SkyBox();
        box.act(0, 0, 0, 1, 1, 1);
        box.figure(0, 5, 0, 3, false);
        box.figure(0, 3, 20, 8, false);
        box.figure(0, 2, 0, 5, true);
        CHECK.due("with the tall one", box.length(0, 9), 10);
        CHECK.due("none goes below it", box.length(0, 8), 0);
        box.ground(0, 40);
        CHECK.due("a refused one is left out", box.length(0, 9), 7);
        CHECK.due("its height too", box.length(0, 6), 7);
        CHECK.due("flat", box.length(0, 5), 5);
        CHECK.due("flat, just", box.length(0, 4), 5);
        CHECK.due("not at all", box.length(0, 3), 0);
        box.ground(40, 40);
        CHECK.due("all are refused", box.length(0, 9), 0);
    }

    private static void lengthAtTheEdges() {
        SkyBox box = new SkyBox();
        box.act(0, 0, 0, 1, 1, 1);
        box.figure(0, 4, 0, 0, true);
        CHECK.due("only high ones, high", box.length(0, 1), 4);
        box.act(0, 0, 0, 1, 1, 1);
        box.figure(1, 1, 0, 0, true);
        CHECK.due("a single minute", box.length(1, 1), 1);
        CHECK.due("only high ones, flat: nothing is left", box.length(0, 0), 0);
        CHECK.due("base -1", box.length(0, -1), -1);
        CHECK.due("base 10", box.length(0, 10), -1);
        CHECK.due("no such act", box.length(2, 5), -1);
        CHECK.due("act -1", box.length(-1, 5), -1);
        CHECK.due("the least", box.length(LEAST, LEAST), -1);
        for (int i = 0; i < 5; i++) {
            box.figure(0, 9, 0, 0, false);
        }
        CHECK.due("six figures", box.length(0, 1), 49);
    }
}
