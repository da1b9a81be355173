/** Part III: THE PLAN and THE MENDING, each step of their ranks, and what is told of what is PLANNED. */
public final class RankTest {
    private static final Check CHECK = new Check("RankTest");

    public static void main(String[] args) {
        noActs();
        mostWorthOfAll();
        worthOfSixActs();
        soonestOfSixActs();
        soonestLastLanding();
        noActsAheadOfAll();
        firstActTheLeast();
        thenItsSecond();
        endsFirst();
        goesAheadOfOneThatEnds();
        triedOrdersLeaveNothing();
        mendingMostWorth();
        mendingMostKept();
        mendingCountsBegins();
        mendingOfAnotherMinute();
        mendingThenAsThePlan();
        mendingOfNothing();
        planForgets();
        orderNumbers();
        toldNumbers();
        runwayNumbers();
        counts();
        CHECK.end();
    }

    private static int act(SkyBox box, int worth, int minutes, int climb, int home) {
        int number = box.act(0, 0, worth, climb, home, 120);
        box.figure(number, minutes, 0, 0, false);
        return number;
    }

    private static void order(String name, SkyBox box, int... due) {
        for (int i = 0; i < due.length; i++) {
            CHECK.due(name + ": order(" + i + ")", box.order(i), due[i]);
        }
        CHECK.due(name + ": order behind the last", box.order(due.length), -1);
        CHECK.due(name + ": count(3)", box.count(3), due.length);
    }

    /** THE PLAN of no ACTS is a plan: it is PLANNED, and its WORTH is 0. */
    private static void noActs() {
        SkyBox box = new SkyBox();
        CHECK.due("nothing is PLANNED", box.count(3), -1);
        CHECK.due("plan(0)", box.plan(0), 0);
        order("none", box);
        CHECK.due("last landing", box.count(4), -1);
        for (int minute : new int[] {0, 239}) {
            CHECK.due("runway", box.runway(minute), -1);
        }
        CHECK.due("mend(0)", box.mend(0), 0);
        order("none", box);
    }

    /** The most WORTH, be it of one ACT or of many, and however late. */
    private static void mostWorthOfAll() {
        SkyBox box = new SkyBox();
        act(box, 50, 9, 1, 1);
        act(box, 26, 4, 1, 1);
        act(box, 25, 4, 1, 1);
        box.birds(10, 240);
        CHECK.due("51 of two is more than 50", box.plan(1), 51);
        order("two", box, 1, 2);
        SkyBox even = new SkyBox();
        act(even, 50, 9, 1, 1);
        act(even, 25, 4, 1, 1);
        act(even, 25, 4, 1, 1);
        even.birds(10, 240);
        CHECK.due("50 of two is no more than 50", even.plan(1), 50);
        // two land in 10, one in 11
        order("the sooner one", even, 1, 2);
        SkyBox late = new SkyBox();
        act(late, 10, 5, 1, 1);
        act(late, 11, 5, 1, 1);
        late.birds(6, 200);
        late.birds(205, 240);
        late.ready(1, 199);
        late.ready(0, 230);
        CHECK.due("a late one of WORTH", late.plan(4), 11);
        order("late", late, 1);
        CHECK.due("both", late.plan(3), 21);
        order("both", late, 0, 1);
    }

    private static void worthOfSixActs() {
        SkyBox box = new SkyBox();
        for (int i = 0; i < 6; i++) {
            act(box, 100, 1, 1, 1);
        }
        CHECK.due("six of the most WORTH", box.plan(0), 600);
        order("six", box, 0, 1, 2, 3, 4, 5);
        CHECK.due("order(6)", box.order(6), -1);
        CHECK.due("mend", box.mend(0), 600);
        order("six", box, 0, 1, 2, 3, 4, 5);
    }

    /** Of all ORDERS of six, not the first that can be. */
    private static void soonestOfSixActs() {
        SkyBox box = new SkyBox();
        int[] homes = {1, 2, 3, 4, 5, 20};
        for (int home : homes) {
            act(box, 10, 5, 1, home);
        }
        CHECK.due("plan", box.plan(0), 60);
        // 5 must be first or second to land up to 32; 1, 5, 2, 3, 4, 0 wants the runway twice in 31
        order("six", box, 1, 5, 2, 4, 3, 0);
        CHECK.due("last landing", box.count(4), 32);
        CHECK.due("the landing of 5", box.told(5, 3), 31);
    }

    /** Of these the one whose last landing is the soonest: the latest landing of all in it. */
    private static void soonestLastLanding() {
        SkyBox box = new SkyBox();
        act(box, 10, 5, 1, 1);
        act(box, 10, 5, 1, 2);
        CHECK.due("plan", box.plan(0), 20);
        // 0, 1 lands in 13; 1, 0 in 12
        order("a MINUTE sooner", box, 1, 0);
        CHECK.due("last landing", box.count(4), 12);
        SkyBox far = new SkyBox();
        act(far, 10, 1, 1, 2);
        act(far, 10, 1, 1, 20);
        // 0, 1 lands in 23; 1, 0 in 22, where the last to land is the first in the box
        far.plan(0);
        order("the far one first", far, 1, 0);
        CHECK.due("last landing of the first", far.count(4), 22);
        CHECK.due("landing of the last", far.told(0, 3), 5);
    }

    /** That of no ACTS ahead of all: an ACT without WORTH does not fly for itself. */
    private static void noActsAheadOfAll() {
        SkyBox box = new SkyBox();
        for (int i = 0; i < 6; i++) {
            act(box, 0, 1, 1, 1);
        }
        CHECK.due("no WORTH", box.plan(0), 0);
        order("none", box);
        CHECK.due("last landing", box.count(4), -1);
        CHECK.due("mend", box.mend(0), 0);
        order("none", box);
    }

    /** Of these the first: its first ACT the least. */
    private static void firstActTheLeast() {
        SkyBox box = new SkyBox();
        act(box, 10, 5, 1, 1);
        act(box, 10, 5, 1, 1);
        act(box, 10, 5, 1, 1);
        CHECK.due("plan", box.plan(0), 30);
        order("all alike", box, 0, 1, 2);
        box.birds(6, 240);
        CHECK.due("room for one", box.plan(1), 10);
        order("the least of three", box, 0);
        Check.read(box, "out if act==0;");
        CHECK.due("room for one, without 0", box.plan(1), 10);
        order("the least of two", box, 1);
    }

    /** Then its second, and so on. */
    private static void thenItsSecond() {
        SkyBox box = new SkyBox();
        for (int i = 0; i < 6; i++) {
            act(box, 10, 5, 1, 1);
        }
        Check.read(box, "out if act==1 and same<2;out if act==3 and 4<same;");
        CHECK.due("1 not in the first two, 3 not the last", box.plan(0), 60);
        order("the first of those", box, 0, 2, 1, 3, 4, 5);
        Check.read(box, "out if act<4 and same==act;");
        CHECK.due("none in its own place", box.plan(0), 60);
        order("the first of those", box, 1, 0, 3, 2, 4, 5);
        Check.read(box, "out if act+same!=5;");
        CHECK.due("backward", box.plan(0), 60);
        order("the only one", box, 5, 4, 3, 2, 1, 0);
    }

    /** An ORDER that ends first of two alike so far. */
    private static void endsFirst() {
        SkyBox box = new SkyBox();
        act(box, 10, 5, 1, 20);
        act(box, 0, 5, 1, 1);
        CHECK.due("plan", box.plan(0), 10);
        // 0 lands in 26, and so does 0, 1
        CHECK.due("both would be alike", box.can(0, 1, -1, -1, 0), 10);
        order("it ends first", box, 0);
        CHECK.due("last landing", box.count(4), 26);
    }

    /** But an ORDER whose first ACT is less is ahead of one that ends sooner, if both are alike in all else. */
    private static void goesAheadOfOneThatEnds() {
        SkyBox box = new SkyBox();
        act(box, 0, 5, 1, 1);
        act(box, 10, 5, 1, 1);
        box.ready(1, 50);
        CHECK.due("plan", box.plan(1), 10);
        // 1 lands in 57, and so does 0, 1
        order("the first ACT the least", box, 0, 1);
        CHECK.due("last landing", box.count(4), 57);
        CHECK.due("plan at once", box.plan(0), 10);
        order("0 ahead would cost time", box, 1);
    }

    /** ORDERS that are tried and left take no MINUTE of the runway. */
    private static void triedOrdersLeaveNothing() {
        SkyBox box = new SkyBox();
        act(box, 10, 5, 1, 3);
        act(box, 20, 5, 1, 3);
        act(box, 30, 5, 1, 3);
        box.birds(6, 240);
        CHECK.due("the last one tried", box.plan(1), 30);
        order("it alone", box, 2);
        int[] due = {0, 1, 6, 9, 5};
        for (int what = 0; what < due.length; what++) {
            CHECK.due("told(2, " + what + ")", box.told(2, what), due[what]);
        }
        CHECK.due("can behind a plan", box.can(1, -1, -1, -1, 1), 20);
        CHECK.due("plan again", box.plan(1), 30);
        CHECK.due("the same take off", box.told(2, 0), 0);
        CHECK.due("the same landing", box.told(2, 3), 9);
    }

    /** THE MENDING: the most WORTH, though nothing is kept for it. */
    private static void mendingMostWorth() {
        SkyBox box = new SkyBox();
        act(box, 10, 5, 1, 1);
        act(box, 10, 5, 1, 1);
        box.birds(11, 240);
        CHECK.due("plan", box.plan(1), 20);
        order("planned", box, 0, 1);
        act(box, 20, 9, 1, 1);
        CHECK.due("as much", box.mend(1), 20);
        order("kept", box, 0, 1);
        act(box, 21, 9, 1, 1);
        CHECK.due("more by one", box.mend(1), 21);
        order("nothing is kept", box, 3);
    }

    /** Of these the most ACTS that are in both and begin in the box in the same MINUTE. */
    private static void mendingMostKept() {
        SkyBox box = new SkyBox();
        act(box, 10, 5, 1, 1);
        act(box, 10, 5, 1, 1);
        act(box, 10, 5, 1, 1);
        box.ready(0, 10);
        box.ready(0, 0);
        CHECK.due("plan(1)", box.plan(1), 30);
        order("planned", box, 1, 2, 0);
        CHECK.due("mend(2)", box.mend(2), 30);
        order("all three kept", box, 1, 2, 0);
        box.ready(1, 5);
        CHECK.due("mend(3)", box.mend(3), 30);
        // 1 can't begin in 1 any more; 0, 2, 1 keeps one, as 2, 1, 0 does; 0, 1, 2 keeps none
        order("one kept", box, 0, 2, 1);
        CHECK.due("2 begins as it did", box.told(2, 1), 6);
        CHECK.due("plan(3)", box.plan(3), 30);
        order("planned anew", box, 0, 1, 2);
    }

    /** The begin in the box counts, not the take off: KIND 1 ahead shifts the begin, KIND 2 the take off. */
    private static void mendingCountsBegins() {
        SkyBox box = new SkyBox();
        act(box, 10, 5, 1, 1);
        Check.read(box, "out if minute!=10;");
        CHECK.due("plan", box.plan(0), 10);
        CHECK.due("take off", box.told(0, 0), 9);
        box.act(1, 0, 10, 1, 8, 120);
        box.figure(1, 1, 0, 0, false);
        box.act(2, 0, 10, 1, 7, 120);
        box.figure(2, 1, 0, 0, false);
        Check.read(box, "out if act!=0 and ahead!=0-1;out if act==0 and ahead==1 and minute!=11;"
                + "out if act==0 and ahead==2 and minute!=10;out if act==0 and ahead<0;");
        CHECK.due("take off as it was, behind 1", box.can(1, 0, -1, -1, 0), 20);
        CHECK.due("mend", box.mend(0), 20);
        order("begin as it was, behind 2", box, 2, 0);
        CHECK.due("begin", box.told(0, 1), 10);
        CHECK.due("take off", box.told(0, 0), 8);
    }

    /** One that is in both but begins in another MINUTE counts for nothing. */
    private static void mendingOfAnotherMinute() {
        SkyBox box = new SkyBox();
        act(box, 10, 5, 1, 1);
        act(box, 10, 5, 1, 1);
        Check.read(box, "out if act==0;");
        CHECK.due("plan of 1 alone", box.plan(0), 10);
        order("1 alone", box, 1);
        box.ready(1, 1);
        Check.read(box, "out if same!=0;");
        CHECK.due("mend(0)", box.mend(0), 10);
        order("1 begins as it did", box, 1);
        CHECK.due("mend(1)", box.mend(1), 10);
        order("1 can't begin as it did, so 0 is sooner", box, 0);
    }

    /** Then as THE PLAN: the soonest last landing, then the first. */
    private static void mendingThenAsThePlan() {
        SkyBox box = new SkyBox();
        act(box, 10, 5, 1, 1);
        box.plan(0);
        act(box, 10, 5, 1, 1);
        act(box, 10, 5, 1, 9);
        CHECK.due("mend", box.mend(0), 30);
        // 0 is kept; 0, 1, 2 lands in 25, 0, 2, 1 in 20
        order("0 kept, then the soonest", box, 0, 2, 1);
        SkyBox alike = new SkyBox();
        act(alike, 10, 5, 1, 1);
        act(alike, 10, 5, 1, 1);
        act(alike, 10, 5, 1, 1);
        Check.read(alike, "out if act!=2;");
        alike.plan(0);
        order("2 alone", alike, 2);
        Check.read(alike, "");
        CHECK.due("mend", alike.mend(0), 30);
        order("2 kept, then the first", alike, 2, 0, 1);
        act(alike, 0, 5, 1, 1);
        CHECK.due("mend again", alike.mend(0), 30);
        order("one without WORTH is not taken in", alike, 2, 0, 1);
    }

    /** What is PLANNED may be no ACTS; THE MENDING of it is THE PLAN. */
    private static void mendingOfNothing() {
        SkyBox box = new SkyBox();
        box.plan(0);
        act(box, 10, 5, 1, 2);
        act(box, 10, 5, 1, 1);
        CHECK.due("mend", box.mend(0), 20);
        order("as planned", box, 0, 1);
        box.birds(0, 240);
        CHECK.due("mend to nothing", box.mend(1), 0);
        order("nothing", box);
        CHECK.due("mend again", box.mend(0), 20);
        order("as planned", box, 0, 1);
    }

    /** THE PLAN keeps nothing of what was PLANNED. */
    private static void planForgets() {
        SkyBox box = new SkyBox();
        act(box, 10, 5, 1, 1);
        act(box, 10, 5, 1, 1);
        box.ready(0, 6);
        box.plan(1);
        order("late", box, 1, 0);
        box.plan(0);
        order("planned anew", box, 0, 1);
        box.mend(1);
        order("mended", box, 1, 0);
        box.plan(0);
        order("planned anew", box, 0, 1);
    }

    /** Two ACTS, 1 ahead of 0, and a third that stays down. */
    private static SkyBox planned() {
        SkyBox box = new SkyBox();
        act(box, 10, 5, 2, 1);
        act(box, 10, 5, 1, 3);
        act(box, 0, 5, 1, 1);
        box.plan(0);
        order("planned", box, 1, 0);
        return box;
    }

    /** The i-th ACT of what is PLANNED; NONE: not so many. */
    private static void orderNumbers() {
        SkyBox box = planned();
        CHECK.due("order(0)", box.order(0), 1);
        CHECK.due("order(1)", box.order(1), 0);
        for (int i : new int[] {2, 3, 5, 6, 7, -1, -2, Integer.MIN_VALUE, Integer.MAX_VALUE}) {
            CHECK.due("order(" + i + ")", box.order(i), -1);
        }
    }

    /** Of an ACT in what is PLANNED; NONE: it is not in it, no such ones. */
    private static void toldNumbers() {
        SkyBox box = planned();
        int[][] due = {{4, 6, 11, 12, 5}, {0, 1, 6, 9, 5}};
        for (int act = 0; act < 2; act++) {
            for (int what = 0; what < 5; what++) {
                CHECK.due("told(" + act + ", " + what + ")", box.told(act, what), due[act][what]);
            }
            for (int what : new int[] {-1, 5, 6, Integer.MIN_VALUE, Integer.MAX_VALUE}) {
                CHECK.due("told(" + act + ", " + what + ")", box.told(act, what), -1);
            }
        }
        for (int act : new int[] {2, 3, 5, 6, -1, Integer.MIN_VALUE, Integer.MAX_VALUE}) {
            for (int what = -1; what <= 5; what++) {
                CHECK.due("told(" + act + ", " + what + ")", box.told(act, what), -1);
            }
        }
    }

    /** Who takes off or lands in a MINUTE: the ACT, 100 and the ACT for a landing; NONE: nobody. */
    private static void runwayNumbers() {
        SkyBox box = planned();
        for (int minute = 0; minute < 240; minute++) {
            int due = minute == 0 ? 1 : minute == 4 ? 0 : minute == 9 ? 101 : minute == 12 ? 100 : -1;
            CHECK.due("runway(" + minute + ")", box.runway(minute), due);
        }
        for (int minute : new int[] {-1, 240, Integer.MIN_VALUE, Integer.MAX_VALUE}) {
            CHECK.due("runway(" + minute + ")", box.runway(minute), -1);
        }
        SkyBox six = new SkyBox();
        for (int i = 0; i < 6; i++) {
            act(six, 1, 1, 20, 20);
        }
        six.plan(0);
        for (int i = 0; i < 6; i++) {
            CHECK.due("six take off", six.runway(i), i);
            CHECK.due("six land", six.runway(41 + i), 100 + i);
        }
    }

    /** 3 ACTS PLANNED (NONE: nothing is), 4 the last landing (NONE); NONE for others. */
    private static void counts() {
        SkyBox box = planned();
        int[] due = {3, 0, 0, 2, 12, 0, 0, 100};
        for (int what = 0; what < 8; what++) {
            CHECK.due("count(" + what + ")", box.count(what), due[what]);
        }
        for (int what : new int[] {-1, 8, 9, Integer.MIN_VALUE, Integer.MAX_VALUE}) {
            CHECK.due("count(" + what + ")", box.count(what), -1);
        }
        box.birds(0, 240);
        box.plan(1);
        CHECK.due("planned, but no ACTS", box.count(3), 0);
        CHECK.due("no landing", box.count(4), -1);
        SkyBox first = new SkyBox();
        CHECK.due("nothing is PLANNED", first.count(3), -1);
        CHECK.due("no landing of nothing", first.count(4), -1);
    }
}
