/** FALLS, WIND and the LINE, REFUSED, BASE in a MINUTE, and part III's LENGTH, each at its edges. */
public final class LengthTest {
    private static final Check CHECK = new Check("LengthTest");

    public static void main(String[] args) {
        farBySpeedAndCell();
        farWithoutFalls();
        farByWind();
        cellsByHeight();
        fallsComeAndGo();
        aboveTheGreatestHeight();
        flatBelowTheHighOnes();
        refusedOnesLeftOut();
        nothingToFly();
        shortestAndLongest();
        baseFromAMinuteOn();
        baseOfTheLatestMinute();
        baseOfOneMinute();
        baseAsKnown();
        CHECK.end();
    }

    /** An ACT with one FIGURE. */
    private static SkyBox figure(int minutes, int speed, int height, boolean high) {
        SkyBox box = new SkyBox();
        box.act(0, 0, 1, 1, 1, 60);
        box.figure(0, minutes, speed, height, high);
        return box;
    }

    /** REFUSED from that LINE on down, not by one farther off. */
    private static void far(String name, SkyBox box, int wind, int far) {
        if (far <= 300) {
            box.ground(wind, far);
            CHECK.due(name + ": as far as the line " + far, box.refused(0, 0), 1);
        }
        if (far > 0) {
            box.ground(wind, far - 1);
            CHECK.due(name + ": farther than the line " + (far - 1), box.refused(0, 0), 1);
        }
        if (far < 300) {
            box.ground(wind, far + 1);
            CHECK.due(name + ": not as far as the line " + (far + 1), box.refused(0, 0), 0);
        }
    }

    /** As far as SPEED times the cell, by 10, rounded down. */
    private static void farBySpeedAndCell() {
        for (int speed = 0; speed <= 20; speed++) {
            SkyBox box = figure(1, speed, 4, false);
            box.falls(10);
            for (int cell : new int[] {0, 1, 5, 9, 10, 11, 19, 20, 21, 50, 98, 99}) {
                box.cell(4, cell);
                far("speed " + speed + ", cell " + cell, box, 0, speed * cell / 10);
            }
        }
        SkyBox box = figure(1, 3, 4, false);
        box.falls(10);
        box.cell(4, 33);
        far("9.9 is 9", box, 0, 9);
        box.cell(4, 3);
        far("0.9 is 0", box, 0, 0);
    }

    /** A row that is MISSING, as at first: 20 for each cell. */
    private static void farWithoutFalls() {
        for (int speed = 0; speed <= 20; speed++) {
            for (int height = 0; height < 10; height++) {
                far("missing, speed " + speed + ", height " + height, figure(1, speed, height, false), 0, 2 * speed);
            }
        }
        SkyBox box = figure(1, 20, 9, true);
        far("a high one alike", box, 0, 40);
    }

    /** And WIND (0 .. 50; 0 at first). */
    private static void farByWind() {
        for (int wind : new int[] {0, 1, 25, 49, 50}) {
            far("missing, wind " + wind, figure(1, 10, 0, false), wind, 20 + wind);
            far("speed 0, wind " + wind, figure(1, 0, 0, false), wind, wind);
            SkyBox box = figure(1, 20, 5, false);
            box.falls(10);
            far("cell 0, wind " + wind, box, wind, wind);
            box.cell(5, 99);
            far("cell 99, wind " + wind, box, wind, 198 + wind);
        }
        SkyBox most = figure(1, 20, 5, false);
        most.falls(10);
        most.cell(5, 99);
        most.ground(50, 300);
        CHECK.due("the farthest does not come as far as 300", most.refused(0, 0), 0);
        SkyBox first = figure(1, 20, 0, false);
        CHECK.due("at first 40 of 100", first.refused(0, 0), 0);
        CHECK.due("at first it flies", first.length(0, 9), 1);
    }

    /** FALLS are a row of ten bytes, by HEIGHT. */
    private static void cellsByHeight() {
        for (int height = 0; height < 10; height++) {
            SkyBox box = figure(1, 10, height, false);
            box.falls(10);
            box.ground(0, 50);
            for (int cell = 0; cell < 10; cell++) {
                box.cell(cell, 50);
                CHECK.due("height " + height + " by cell " + cell, box.refused(0, 0), cell == height ? 1 : 0);
                box.cell(cell, 49);
            }
        }
    }

    /** FALLS become a row of ten 0s, or (n NONE) MISSING. */
    private static void fallsComeAndGo() {
        for (int height = 0; height < 10; height++) {
            SkyBox box = figure(1, 20, height, false);
            box.falls(10);
            far("a new row", box, 1, 1);
            box.cell(height, 99);
            far("its cell", box, 1, 199);
            box.falls(10);
            far("a row of 0s again", box, 1, 1);
            box.cell(height, 99);
            box.falls(-1);
            far("missing", box, 1, 41);
            CHECK.due("no cell there", box.cell(height, 5), false);
            far("still missing", box, 1, 41);
            box.falls(10);
            far("and 0s once more", box, 1, 1);
        }
    }

    /** HIGH, if BASE is above the greatest HEIGHT: MINUTES of all; as high as it is not above. */
    private static void aboveTheGreatestHeight() {
        for (int height = 0; height < 10; height++) {
            SkyBox flat = figure(4, 0, height, false);
            SkyBox high = figure(4, 0, height, true);
            SkyBox two = figure(4, 0, 0, true);
            two.figure(0, 2, 0, height, true);
            SkyBox turned = figure(2, 0, height, true);
            turned.figure(0, 4, 0, 0, true);
            for (int base = 0; base < 10; base++) {
                String name = "height " + height + " by base " + base;
                CHECK.due(name + ", flat", flat.length(0, base), base > height ? 4 : 0);
                CHECK.due(name + ", high", high.length(0, base), base > height ? 4 : 0);
                CHECK.due(name + ", the greatest last", two.length(0, base), base > height ? 6 : 0);
                CHECK.due(name + ", the greatest first", turned.length(0, base), base > height ? 6 : 0);
            }
        }
    }

    /** Else FLAT: of those that are not HIGH, if BASE is above the greatest HEIGHT of these. */
    private static void flatBelowTheHighOnes() {
        for (int flat = 0; flat < 10; flat++) {
            for (int high = 0; high < 10; high++) {
                SkyBox box = figure(4, 0, flat, false);
                box.figure(0, 3, 0, high, true);
                box.figure(0, 1, 0, 0, false);
                for (int base = 0; base < 10; base++) {
                    int due = base > Math.max(flat, high) ? 8 : base > flat ? 5 : 0;
                    CHECK.due("flat " + flat + ", high " + high + ", base " + base, box.length(0, base), due);
                }
            }
        }
    }

    /** Of FIGURES that are not REFUSED: neither the MINUTES nor the HEIGHT of others count. */
    private static void refusedOnesLeftOut() {
        for (int high = 0; high < 2; high++) {
            SkyBox box = figure(4, 0, 2, false);
            box.figure(0, 3, 10, 8, high == 1);
            box.figure(0, 2, 0, 4, true);
            int[] all = {0, 0, 0, high == 1 ? 4 : 0, high == 1 ? 4 : 0, high == 1 ? 4 : 0, high == 1 ? 4 : 0,
                high == 1 ? 4 : 0, high == 1 ? 4 : 0, 9};
            int[] left = {0, 0, 0, 4, 4, 6, 6, 6, 6, 6};
            for (int base = 0; base < 10; base++) {
                box.ground(0, 21);
                CHECK.due("none refused, by base " + base, box.length(0, base), all[base]);
                box.ground(0, 20);
                CHECK.due("one refused, by base " + base, box.length(0, base), left[base]);
                box.ground(20, 20);
                CHECK.due("all refused, by base " + base, box.length(0, base), 0);
            }
        }
    }

    /** Else, or if it would be 0: it can't fly. */
    private static void nothingToFly() {
        SkyBox box = new SkyBox();
        box.act(0, 0, 10, 1, 1, 60);
        SkyBox high = figure(4, 0, 3, true);
        SkyBox refused = figure(4, 20, 3, false);
        refused.ground(0, 40);
        for (int base = 0; base < 10; base++) {
            CHECK.due("no figures, by base " + base, box.length(0, base), 0);
            CHECK.due("only high ones, by base " + base, high.length(0, base), base > 3 ? 4 : 0);
            CHECK.due("only refused ones, by base " + base, refused.length(0, base), 0);
        }
        CHECK.due("can't be without figures", box.can(0, -1, -1, -1, 0), -2);
        CHECK.due("is not planned", box.plan(0), 0);
        CHECK.due("can't be if all are refused", refused.can(0, -1, -1, -1, 0), -2);
        high.base(0, 3);
        CHECK.due("can be above", high.can(0, -1, -1, -1, 0), 1);
        CHECK.due("can't be if flat leaves none", high.can(0, -1, -1, -1, 1), -2);
        Check.read(box, "out if 1==1;");
        CHECK.due("no out RULE for it, as it can't fly", box.out(0, 100, 0), -1);
        Check.read(high, "out if 1==1;");
        CHECK.due("an out RULE for one that can", high.out(0, 100, 0), 0);
        CHECK.due("none for it if it can't then", high.out(0, 100, 1), -1);
    }

    private static void shortestAndLongest() {
        CHECK.due("a minute", figure(1, 0, 0, false).length(0, 1), 1);
        SkyBox box = new SkyBox();
        box.act(0, 0, 10, 1, 1, 60);
        for (int i = 0; i < 6; i++) {
            CHECK.due("longer by nine", box.length(0, 9), 9 * i);
            box.figure(0, 9, 0, 8, i % 2 == 0);
        }
        CHECK.due("all that there can be", box.length(0, 9), 54);
        CHECK.due("not by base 8", box.length(0, 8), 0);
        box.plan(0);
        CHECK.due("flown in whole", box.told(0, 4), 54);
        CHECK.due("its end", box.told(0, 2), 55);
    }

    /** From a MINUTE on the cloud's BASE is so high; 9 without. */
    private static void baseFromAMinuteOn() {
        for (int minute : new int[] {0, 1, 120, 238, 239}) {
            for (int v : new int[] {0, 1, 8, 9}) {
                SkyBox box = new SkyBox();
                box.base(minute, v);
                CHECK.due("in it", box.baseIn(minute, 1), v);
                CHECK.due("at the end", box.baseIn(239, 1), v);
                CHECK.due("at the start", box.baseIn(0, 1), minute == 0 ? v : 9);
                if (minute > 0) {
                    CHECK.due("ahead of it", box.baseIn(minute - 1, 1), 9);
                }
                CHECK.due("not known", box.baseIn(minute, 0), 9);
            }
        }
    }

    /** By the FACT of the latest MINUTE up to it, whichever was told first. */
    private static void baseOfTheLatestMinute() {
        SkyBox up = new SkyBox();
        SkyBox down = new SkyBox();
        for (int i = 0; i < 10; i++) {
            up.base(10 * i, i);
            down.base(10 * (9 - i), 9 - i);
        }
        for (int minute = 0; minute < 240; minute++) {
            int due = Math.min(9, minute / 10);
            CHECK.due("told upward, in " + minute, up.baseIn(minute, 10), due);
            CHECK.due("told downward, in " + minute, down.baseIn(minute, 10), due);
        }
    }

    /** Of the same one the last told, also if another MINUTE was told between. */
    private static void baseOfOneMinute() {
        SkyBox box = new SkyBox();
        box.base(50, 3);
        box.base(60, 4);
        box.base(50, 5);
        box.base(50, 2);
        int[] due = {9, 3, 3, 5, 2};
        for (int n = 0; n <= 4; n++) {
            CHECK.due("in 50 as known by " + n, box.baseIn(50, n), due[n]);
            CHECK.due("in 59 as known by " + n, box.baseIn(59, n), due[n]);
            CHECK.due("in 49 as known by " + n, box.baseIn(49, n), 9);
            CHECK.due("in 60 as known by " + n, box.baseIn(60, n), n < 2 ? due[n] : 4);
        }
    }

    /** As KNOWN by n the first n of all FACTS are, of whatever kind. */
    private static void baseAsKnown() {
        SkyBox box = new SkyBox();
        box.act(0, 0, 1, 1, 1, 60);
        box.birds(0, 5);
        box.base(0, 1);
        box.ready(0, 5);
        box.away(5, 7);
        box.base(0, 2);
        int[] due = {9, 9, 1, 1, 1, 2};
        for (int n = 0; n <= 5; n++) {
            CHECK.due("as known by " + n, box.baseIn(0, n), due[n]);
            CHECK.due("as known by " + n + ", late", box.baseIn(239, n), due[n]);
        }
        CHECK.due("as known by 6", box.baseIn(0, 6), -1);
        CHECK.due("as known by -1", box.baseIn(0, -1), -1);
    }
}
