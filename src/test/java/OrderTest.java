/** Part III: AN ORDER, each of its clauses at the MINUTE in which it begins or ends to hold. */
public final class OrderTest {
    private static final Check CHECK = new Check("OrderTest");

    public static void main(String[] args) {
        notAheadOfTheEnd();
        gapBehindIt();
        gapOfTheMinute();
        minutesBelow240();
        withoutBirds();
        rescueNotAway();
        noOutRule();
        takesOffFrom0();
        takesOffWhenReady();
        readyAsTold();
        runwayFreeToTakeOff();
        takesOffBetweenOthers();
        takenFromReadyOn();
        landsUpTo239();
        runwayFreeToLand();
        landsBehindOthers();
        runwayOfTheLastMinute();
        fuelForAll();
        fuelWhileTheRunwayIsTaken();
        lengthByTheBaseOfItsBegin();
        runwayOfThoseAheadAlone();
        anOrderThatCantBe();
        CHECK.end();
    }

    private static int act(SkyBox box, int worth, int minutes, int climb, int home, int fuel) {
        int number = box.act(0, 0, worth, climb, home, fuel);
        box.figure(number, minutes, 0, 0, false);
        return number;
    }

    private static void times(String name, SkyBox box, int act, int... due) {
        for (int what = 0; what < due.length; what++) {
            CHECK.due(name + ": told(" + act + ", " + what + ")", box.told(act, what), due[what]);
        }
    }

    /** An ACT of 5 MINUTES, CLIMB 3, HOME 4, that may begin in one MINUTE alone. */
    private static SkyBox onlyIn(int minute) {
        SkyBox box = new SkyBox();
        act(box, 10, 5, 3, 4, 120);
        Check.read(box, "out if minute!=" + minute + ";");
        return box;
    }

    private static void can(String name, SkyBox box, int n, boolean due) {
        CHECK.due(name, box.can(0, -1, -1, -1, n), due ? 10 : -2);
    }

    /** b is not ahead of the end of the one ahead: it may be just that MINUTE. */
    private static void notAheadOfTheEnd() {
        SkyBox box = new SkyBox();
        act(box, 10, 5, 1, 1, 120);
        act(box, 10, 9, 1, 1, 120);
        act(box, 10, 1, 1, 1, 120);
        CHECK.due("plan", box.plan(0), 30);
        times("first", box, 0, 0, 1, 6, 7, 5);
        times("second", box, 1, 5, 6, 15, 16, 9);
        times("third", box, 2, 14, 15, 16, 17, 1);
        Check.read(box, "out if act==1 and minute!=5;");
        CHECK.due("not in the MINUTE ahead of it", box.can(0, 1, -1, -1, 0), -2);
        Check.read(box, "out if act==1 and minute!=6;");
        CHECK.due("in its MINUTE", box.can(0, 1, -1, -1, 0), 20);
    }

    /** And GAP behind it (0 for the first). */
    private static void gapBehindIt() {
        for (int gap : new int[] {0, 1, 2, 29, 30}) {
            SkyBox box = new SkyBox();
            act(box, 10, 5, 1, 1, 120);
            act(box, 10, 5, 1, 1, 120);
            Check.read(box, "gap " + gap + ";out if act==1 and minute!=" + (6 + gap) + ";");
            CHECK.due("just a gap of " + gap, box.can(0, 1, -1, -1, 0), 20);
            Check.read(box, "gap " + gap + ";out if act==1 and minute!=" + (5 + gap) + ";");
            CHECK.due("less than a gap of " + gap, box.can(0, 1, -1, -1, 0), -2);
            Check.read(box, "gap " + gap + ";out if act==0 and minute!=1;");
            CHECK.due("no gap for the first", box.can(0, -1, -1, -1, 0), 10);
        }
    }

    /** GAP is that of the ACT that would begin, in the MINUTE in which it would. */
    private static void gapOfTheMinute() {
        SkyBox box = new SkyBox();
        act(box, 10, 5, 1, 1, 120);
        box.act(3, 2, 10, 1, 1, 120);
        box.figure(1, 5, 0, 0, false);
        String[] texts = {"gap 20 if minute<=24;", "gap 20 if kind==0;gap 7 if kind==3;", "gap 20 if ahead==3;gap 7;",
            "gap minute-6;", "gap minute-5;", "gap 18-minute;"};
        // the fifth grows with the MINUTE till it is held to 30
        int[] due = {25, 13, 13, 6, 36, 12};
        for (int i = 0; i < texts.length; i++) {
            Check.read(box, texts[i] + "out if act==0 and ahead!=0-1;");
            CHECK.due("can by " + texts[i], box.can(0, 1, -1, -1, 0), 20);
            box.plan(0);
            CHECK.due("begins by " + texts[i], box.told(1, 1), due[i]);
        }
    }

    /** All its MINUTES there are below 240 (and it lands up to 239, so they are). */
    private static void minutesBelow240() {
        SkyBox box = new SkyBox();
        for (int i = 0; i < 6; i++) {
            box.act(0, 0, 10, 1, 1, 120);
        }
        for (int i = 0; i < 6; i++) {
            box.figure(0, 9, 0, 0, false);
        }
        Check.read(box, "out if minute<184;");
        CHECK.due("54 MINUTES from 184 on", box.can(0, -1, -1, -1, 0), 10);
        box.plan(0);
        times("the latest", box, 0, 183, 184, 238, 239, 54);
        Check.read(box, "out if minute<185;");
        CHECK.due("54 MINUTES from 185 on", box.can(0, -1, -1, -1, 0), -2);
        for (int minute = 185; minute < 240; minute++) {
            Check.read(box, "out if minute!=" + minute + ";");
            CHECK.due("54 MINUTES from " + minute + " on", box.can(0, -1, -1, -1, 0), -2);
        }
    }

    /** In MINUTES a .. b - 1 there are BIRDS in the box; on the way up and home they are no matter. */
    private static void withoutBirds() {
        closed(true);
    }

    private static void rescueNotAway() {
        closed(false);
    }

    private static void closed(boolean birds) {
        // in the box in 100 .. 104
        int[][] spans = {{0, 100}, {105, 240}, {99, 100}, {105, 106}, {100, 101}, {104, 105}, {102, 103}, {99, 101},
            {104, 106}, {0, 240}, {100, 105}, {97, 100}, {105, 110}};
        boolean[] due = {true, true, true, true, false, false, false, false, false, false, false, true, true};
        for (int i = 0; i < spans.length; i++) {
            SkyBox box = onlyIn(100);
            CHECK.due("a span", birds ? box.birds(spans[i][0], spans[i][1]) : box.away(spans[i][0], spans[i][1]), 0);
            String name = (birds ? "birds in " : "away in ") + spans[i][0] + " .. " + spans[i][1] + " - 1";
            can(name, box, 1, due[i]);
            can(name + ", not known", box, 0, true);
        }
        SkyBox box = onlyIn(100);
        tell(box, birds, 0, 100);
        tell(box, birds, 105, 240);
        can("between two", box, 2, true);
        tell(box, !birds, 102, 103);
        can("both kinds count", box, 3, false);
        can("one kind alone", box, 2, true);
    }

    private static void tell(SkyBox box, boolean birds, int a, int b) {
        if (birds) {
            box.birds(a, b);
        } else {
            box.away(a, b);
        }
    }

    /** No out RULE holds: of several none, and only in the MINUTE in which it would begin. */
    private static void noOutRule() {
        SkyBox box = new SkyBox();
        act(box, 10, 5, 3, 4, 120);
        String[] texts = {"out if minute<100;", "out if minute<=100;", "out if minute<50;out if minute<100;",
            "out if minute<100;out if minute<50;", "out if 1==1;", "out if act==1;", "out if minute!=227;",
            "out if minute!=3;", "out if minute!=2;", "out if minute!=230;", "out if minute!=231;", "out if minute==3;"};
        int[] due = {100, 101, 100, 100, -1, 3, 227, 3, -1, 230, -1, 4};
        for (int i = 0; i < texts.length; i++) {
            Check.read(box, texts[i]);
            can(texts[i], box, 0, due[i] >= 0);
            box.plan(0);
            CHECK.due("begins by " + texts[i], box.told(0, 1), due[i]);
        }
    }

    /** It takes off in the latest MINUTE t, from 0 on, up to b - CLIMB. */
    private static void takesOffFrom0() {
        for (int climb : new int[] {1, 2, 19, 20}) {
            SkyBox box = new SkyBox();
            act(box, 10, 5, climb, 4, 120);
            Check.read(box, "out if minute!=" + climb + ";");
            can("climb " + climb + ", takes off in 0", box, 0, true);
            box.plan(0);
            times("climb " + climb, box, 0, 0, climb);
            Check.read(box, "out if minute!=" + (climb - 1) + ";");
            can("climb " + climb + ", a MINUTE sooner", box, 0, false);
            Check.read(box, "out if minute!=100;");
            box.plan(0);
            times("the latest, climb " + climb, box, 0, 100 - climb, 100, 105, 109, 5);
        }
    }

    /** From its READY on. */
    private static void takesOffWhenReady() {
        for (int minute : new int[] {0, 1, 96, 97}) {
            SkyBox box = onlyIn(100);
            box.ready(0, minute);
            can("ready from " + minute + " on", box, 1, true);
            box.plan(1);
            times("ready from " + minute + " on", box, 0, 97, 100);
        }
        for (int minute : new int[] {98, 99, 100, 101, 239}) {
            SkyBox box = onlyIn(100);
            box.ready(0, minute);
            can("ready from " + minute + " on", box, 1, false);
            can("ready from " + minute + " on, not known", box, 0, true);
        }
        // lands 12 MINUTES behind its take off
        SkyBox box = new SkyBox();
        act(box, 10, 5, 3, 4, 120);
        box.ready(0, 227);
        box.ready(0, 228);
        can("ready from 227 on, lands in 239", box, 1, true);
        box.plan(1);
        times("ready from 227 on", box, 0, 227, 230, 235, 239, 5);
        can("ready from 228 on", box, 2, false);
    }

    /** The latest told counts, be it sooner or later; each ACT has its own. */
    private static void readyAsTold() {
        SkyBox box = new SkyBox();
        act(box, 10, 5, 3, 4, 120);
        act(box, 10, 5, 3, 4, 120);
        box.ready(0, 50);
        box.ready(1, 80);
        box.ready(0, 20);
        box.ready(0, 60);
        box.ready(0, 0);
        int[] due = {0, 50, 50, 20, 60, 0};
        Check.read(box, "out if act==1;");
        for (int n = 0; n <= 5; n++) {
            box.plan(n);
            CHECK.due("take off as known by " + n, box.told(0, 0), due[n]);
        }
        Check.read(box, "out if act==0;");
        int[] others = {0, 0, 80, 80, 80, 80};
        for (int n = 0; n <= 5; n++) {
            box.plan(n);
            CHECK.due("take off of the other as known by " + n, box.told(1, 0), others[n]);
        }
    }

    /** In which the runway is free: not in the MINUTE of a take off, nor of a landing, ahead in the ORDER. */
    private static void runwayFreeToTakeOff() {
        SkyBox box = new SkyBox();
        // takes off in 9, is in the box in 10 .. 14, lands in 20
        act(box, 10, 5, 1, 5, 120);
        act(box, 10, 5, 6, 1, 120);
        String text = "out if act==0 and minute!=10;out if act==1 and minute!=";
        Check.read(box, text + "15;");
        box.plan(0);
        times("as soon as the other takes off", box, 1, 8, 15, 20, 21, 5);
        Check.read(box, text + "16;");
        box.plan(0);
        times("a MINUTE later", box, 1, 10, 16, 21, 22, 5);
        Check.read(box, text + "26;");
        box.plan(0);
        times("as soon as the other lands", box, 1, 19, 26, 31, 32, 5);
        Check.read(box, text + "27;");
        box.plan(0);
        times("a MINUTE behind its landing", box, 1, 21, 27, 32, 33, 5);
        Check.read(box, text + "25;");
        box.plan(0);
        times("a MINUTE ahead of its landing", box, 1, 19, 25, 30, 31, 5);
    }

    /** Several MINUTES ahead, if all between are taken. */
    private static void takesOffBetweenOthers() {
        SkyBox box = new SkyBox();
        // each may begin in one MINUTE: 0 takes off in 19, 1 lands in 18, 2 takes off in 17
        act(box, 10, 1, 1, 20, 120);
        act(box, 10, 1, 1, 1, 120);
        act(box, 10, 1, 13, 20, 120);
        act(box, 10, 1, 12, 20, 120);
        Check.read(box, "out if act==0 and minute!=20;out if act==1 and minute!=16;out if act==2 and minute!=30;"
                + "out if act==3 and minute!=31;");
        CHECK.due("1, 0, 2 and 3 can be", box.can(1, 0, 2, 3, 0), 40);
        box.plan(0);
        times("lands in 18", box, 1, 15, 16, 17, 18, 1);
        times("takes off in 19", box, 0, 19, 20, 21, 41, 1);
        times("takes off in 17", box, 2, 17, 30, 31, 51, 1);
        times("19, 18, 17 are taken", box, 3, 16, 31, 32, 52, 1);
        box.ready(3, 16);
        CHECK.due("ready in 16", box.can(1, 0, 2, 3, 1), 40);
        box.ready(3, 17);
        CHECK.due("ready in 17", box.can(1, 0, 2, 3, 2), -2);
        CHECK.due("ready in 17, the last one ahead stays down", box.can(1, 0, 3, -1, 2), 30);
    }

    /** If the runway is taken from READY on, the ACT begins later. */
    private static void takenFromReadyOn() {
        SkyBox box = new SkyBox();
        act(box, 10, 1, 1, 1, 120);
        act(box, 10, 1, 3, 20, 120);
        Check.read(box, "out if act==1 and ahead==0-1;");
        box.plan(0);
        times("the first", box, 0, 0, 1, 2, 3, 1);
        // from 2 on: 2 - 3 is below 0; in 3 it would take off in 0, which is taken
        times("takes off in 1", box, 1, 1, 4, 5, 25, 1);
        box.ready(1, 3);
        box.plan(1);
        times("3 is taken by the landing", box, 1, 4, 7, 8, 28, 1);
    }

    /** It lands in the first MINUTE l from its end and HOME on, up to 239. */
    private static void landsUpTo239() {
        for (int home : new int[] {1, 2, 19, 20}) {
            SkyBox box = new SkyBox();
            act(box, 10, 5, 3, home, 120);
            int latest = 239 - home - 5;
            Check.read(box, "out if minute!=" + latest + ";");
            can("home " + home + ", lands in 239", box, 0, true);
            box.plan(0);
            times("home " + home, box, 0, latest - 3, latest, latest + 5, 239, 5);
            CHECK.due("the runway then", box.runway(239), 100);
            CHECK.due("the last landing", box.count(4), 239);
            Check.read(box, "out if minute!=" + (latest + 1) + ";");
            can("home " + home + ", would land in 240", box, 0, false);
        }
    }

    private static void runwayFreeToLand() {
        // 0 is in the box in 10 and lands in 20, the other is in the box in 12
        String text = "out if act==0 and minute!=10;out if act==1 and minute!=12;";
        int[] homes = {6, 7, 8};
        int[] due = {19, 21, 21};
        for (int i = 0; i < homes.length; i++) {
            SkyBox both = new SkyBox();
            act(both, 10, 1, 1, 9, 120);
            act(both, 10, 1, 1, homes[i], 120);
            Check.read(both, text);
            CHECK.due("can", both.can(0, 1, -1, -1, 0), 20);
            both.plan(0);
            CHECK.due("lands, home " + homes[i], both.told(1, 3), due[i]);
            CHECK.due("the other lands in 20", both.told(0, 3), 20);
        }
    }

    /** Behind several MINUTES that are taken. (Who is ahead has taken off long ahead of any landing behind.) */
    private static void landsBehindOthers() {
        SkyBox box = new SkyBox();
        // all four are home in 30
        act(box, 10, 1, 1, 19, 120);
        act(box, 10, 1, 1, 17, 120);
        act(box, 10, 1, 1, 15, 120);
        act(box, 10, 1, 1, 13, 120);
        Check.read(box, "out if act==0 and minute!=10;out if act==1 and minute!=12;out if act==2 and minute!=14;"
                + "out if act==3 and minute!=16;");
        CHECK.due("can", box.can(0, 1, 2, 3, 0), 40);
        box.plan(0);
        for (int act = 0; act < 4; act++) {
            CHECK.due("landing of " + act, box.told(act, 3), 30 + act);
            CHECK.due("runway of " + act, box.runway(30 + act), 100 + act);
        }
    }

    /** Up to 239: if that MINUTE is taken, there is none behind it. */
    private static void runwayOfTheLastMinute() {
        int[] homes = {5, 6, 7};
        int[] due = {20, -2, -2};
        for (int i = 0; i < homes.length; i++) {
            SkyBox box = new SkyBox();
            act(box, 10, 1, 1, 8, 120);
            act(box, 10, 1, 1, homes[i], 120);
            Check.read(box, "out if act==0 and minute!=230;out if act==1 and minute!=232;");
            CHECK.due("alone", box.can(0, -1, -1, -1, 0), 10);
            CHECK.due("alone", box.can(1, -1, -1, -1, 0), homes[i] < 7 ? 10 : -2);
            CHECK.due("home " + homes[i] + " behind one that lands in 239", box.can(0, 1, -1, -1, 0), due[i]);
        }
    }

    /** l - t is at most FUEL less SPARE. */
    private static void fuelForAll() {
        int[][] ways = {{1, 1, 1}, {3, 5, 4}, {20, 9, 20}};
        for (int[] way : ways) {
            int whole = way[0] + way[1] + way[2];
            for (int spare : new int[] {0, 1, 30}) {
                for (int over = -1; over <= 1; over++) {
                    SkyBox box = new SkyBox();
                    act(box, 10, way[1], way[0], way[2], whole + spare + over);
                    Check.read(box, "spare " + spare + ";");
                    can(whole + " of " + (whole + spare + over) + " less " + spare, box, 0, over >= 0);
                }
            }
        }
        SkyBox most = new SkyBox();
        most.act(0, 0, 10, 20, 20, 120);
        for (int i = 0; i < 6; i++) {
            most.figure(0, 9, 0, 0, false);
        }
        CHECK.due("the longest way of all takes 94", most.plan(0), 10);
        Check.read(most, "spare 26;");
        CHECK.due("94 of 120 less 26", most.plan(0), 10);
        Check.read(most, "spare 27;");
        CHECK.due("94 of 120 less 27", most.plan(0), 0);
    }

    /** The MINUTES for which it waits for the runway count too; with too little FUEL it begins later. */
    private static void fuelWhileTheRunwayIsTaken() {
        for (int fuel = 8; fuel <= 10; fuel++) {
            SkyBox box = new SkyBox();
            // takes off in 9, in the box in 10, lands in 20
            act(box, 10, 1, 1, 9, 120);
            // 1 + 1 + 7 = 9 MINUTES; from 12 on it would land in 20
            act(box, 10, 1, 1, 7, fuel);
            Check.read(box, "out if act==0 and minute!=10;out if act==1 and minute<12;");
            CHECK.due("fuel " + fuel, box.can(0, 1, -1, -1, 0), fuel < 9 ? -2 : 20);
            box.plan(0);
            if (fuel == 9) {
                times("not enough to wait", box, 1, 12, 13, 14, 21, 1);
            } else if (fuel == 10) {
                times("enough to wait", box, 1, 11, 12, 13, 21, 1);
            }
        }
        for (int fuel = 13; fuel <= 14; fuel++) {
            SkyBox box = new SkyBox();
            act(box, 10, 5, 1, 5, 120);
            // 6 + 5 + 2 = 13 MINUTES; from 15 on it would take off in 9, which is taken
            act(box, 10, 5, 6, 2, fuel);
            Check.read(box, "out if act==0 and minute!=10;out if act==1 and minute<15;");
            box.plan(0);
            CHECK.due("takes off, fuel " + fuel, box.told(1, 0), fuel == 13 ? 10 : 8);
            CHECK.due("begins, fuel " + fuel, box.told(1, 1), fuel == 13 ? 16 : 15);
        }
    }

    /** LENGTH by the BASE of b: what it is in later MINUTES is no matter, and ahead of it neither. */
    private static void lengthByTheBaseOfItsBegin() {
        SkyBox box = new SkyBox();
        box.act(0, 0, 10, 3, 4, 120);
        box.figure(0, 5, 0, 2, false);
        box.figure(0, 4, 0, 6, true);
        box.base(0, 0);
        box.base(50, 7);
        box.base(51, 6);
        box.base(52, 0);
        box.base(60, 3);
        box.plan(5);
        times("high from 50 on", box, 0, 47, 50, 59, 63, 9);
        Check.read(box, "out if minute==50;");
        box.plan(5);
        times("flat from 51 on", box, 0, 48, 51, 56, 60, 5);
        Check.read(box, "out if minute<52;");
        box.plan(5);
        times("not by base 0, flat from 60 on", box, 0, 57, 60, 65, 69, 5);
        box.base(60, 2);
        can("base 2 is not above 2", box, 6, false);
        can("not known", box, 5, true);
        box.birds(57, 60);
        Check.read(box, "");
        box.plan(7);
        times("high has no room ahead of the birds, flat has", box, 0, 48, 51, 56, 60, 5);
    }

    /** The runway is taken by those ahead in the ORDER, not by those behind, nor by those that stay down. */
    private static void runwayOfThoseAheadAlone() {
        SkyBox box = new SkyBox();
        act(box, 1, 5, 1, 1, 120);
        act(box, 10, 5, 1, 1, 120);
        box.birds(6, 240);
        CHECK.due("one alone has room", box.plan(1), 10);
        times("as if the other was not there", box, 1, 0, 1, 6, 7, 5);
        CHECK.due("the other", box.told(0, 0), -1);
        CHECK.due("runway(0)", box.runway(0), 1);
        CHECK.due("runway(7)", box.runway(7), 101);
        SkyBox both = new SkyBox();
        // both want to take off in 9 for 10 and for 15; who is ahead gets it
        act(both, 10, 5, 1, 20, 120);
        act(both, 10, 5, 6, 20, 120);
        Check.read(both, "out if act==0 and minute!=10;out if act==1 and minute!=15;");
        both.plan(0);
        times("ahead", both, 0, 9, 10, 15, 35, 5);
        times("behind", both, 1, 8, 15, 20, 40, 5);
    }

    /** If one has no such b, the ORDER can't be, whichever of them it is. */
    private static void anOrderThatCantBe() {
        SkyBox box = new SkyBox();
        for (int i = 0; i < 5; i++) {
            act(box, 1 << i, 5, 1, 1, 120);
        }
        Check.read(box, "out if act==4;");
        int[][] orders = {{4, -1, -1, -1}, {4, 0, -1, -1}, {0, 4, -1, -1}, {0, 1, 4, -1}, {0, 1, 2, 4}, {4, 0, 1, 2}};
        for (int[] each : orders) {
            CHECK.due("with one that can't", box.can(each[0], each[1], each[2], each[3], 0), -2);
        }
        CHECK.due("without it", box.can(0, 1, 2, 3, 0), 15);
        CHECK.due("in another order", box.can(3, 1, 0, 2, 0), 15);
        CHECK.due("the plan is without it", box.plan(0), 15);
        Check.read(box, "out if act==4 and ahead==0-1;");
        CHECK.due("not as the first", box.can(4, -1, -1, -1, 0), -2);
        CHECK.due("as the second", box.can(3, 4, -1, -1, 0), 24);
        SkyBox zero = new SkyBox();
        act(zero, 0, 5, 1, 1, 120);
        CHECK.due("an ORDER of no WORTH can be", zero.can(0, -1, -1, -1, 0), 0);
    }
}
