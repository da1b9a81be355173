/** Promise 19: THE MENDING of what is PLANNED. */
public final class MendTest {
    private static final Check CHECK = new Check("MendTest");

    public static void main(String[] args) {
        keepsBegins();
        worthGoesFirst();
        keepsWorthless();
        thenAsThePlan();
        mendsTheMended();
        notInBoth();
        keepsAtTheCostOfTime();
        emptyOnes();
        CHECK.end();
    }

    private static void act(SkyBox box, int worth, int minutes) {
        int number = box.act(0, 0, worth, 1, 1, 120);
        box.figure(number, minutes, 0, 0, false);
    }

    private static void order(String when, SkyBox box, int... due) {
        for (int i = 0; i < due.length; i++) {
            CHECK.due(when + ": order(" + i + ")", box.order(i), due[i]);
        }
        CHECK.due(when + ": count(3)", box.count(3), due.length);
    }

    private static void keepsBegins() {
        SkyBox box = new SkyBox();
        act(box, 10, 5);
        act(box, 10, 5);
        act(box, 10, 5);
        box.ready(0, 5);
        box.plan(1);
        order("planned", box, 1, 0, 2);
        CHECK.due("mend(0)", box.mend(0), 30);
        order("kept", box, 1, 0, 2);
        CHECK.due("plan(0)", box.plan(0), 30);
        order("planned anew", box, 0, 1, 2);
    }

    private static void worthGoesFirst() {
        SkyBox box = new SkyBox();
        act(box, 10, 5);
        act(box, 10, 5);
        box.birds(12, 240);
        box.plan(1);
        order("planned", box, 0, 1);
        act(box, 11, 5);
        CHECK.due("mend(1)", box.mend(1), 21);
        // 0 ahead of 2 keeps the begin of 0; 2 ahead of 0 would keep none
        order("mended", box, 0, 2);
        act(box, 30, 9);
        CHECK.due("mend(1) with a large one", box.mend(1), 30);
        order("none of the former", box, 3);
    }

    /** An ACT without WORTH stays if it keeps its MINUTE, though THE PLAN would leave it. */
    private static void keepsWorthless() {
        SkyBox box = new SkyBox();
        act(box, 10, 5);
        box.plan(0);
        act(box, 0, 5);
        CHECK.due("mend(0)", box.mend(0), 10);
        order("a worthless one is not taken in", box, 0);
        SkyBox other = new SkyBox();
        act(other, 0, 5);
        act(other, 10, 5);
        // 1 is late at first, so 0 is of no use ahead of it
        Check.read(other, "out if act==1 and ahead<0;");
        CHECK.due("plan with a helper", other.plan(0), 10);
        order("the helper flies", other, 0, 1);
        Check.read(other, "");
        CHECK.due("mend without need of it", other.mend(0), 10);
        order("both begin as before", other, 0, 1);
        CHECK.due("plan without need of it", other.plan(0), 10);
        order("the helper stays down", other, 1);
    }

    private static void thenAsThePlan() {
        SkyBox box = new SkyBox();
        act(box, 10, 5);
        act(box, 10, 5);
        act(box, 10, 5);
        box.birds(1, 20);
        box.plan(0);
        CHECK.due("planned from 1 on", box.told(0, 1), 1);
        box.plan(0);
        CHECK.due("mend(1)", box.mend(1), 30);
        order("nothing can be kept: the first of all", box, 0, 1, 2);
        CHECK.due("count(4)", box.count(4), 36);
        box.ready(1, 30);
        box.ready(2, 29);
        CHECK.due("mend(3)", box.mend(3), 30);
        // 0 keeps minute 20, and either 2 goes to 30 and 1 behind it, or 1 ahead of 2
        order("the soonest last landing", box, 0, 2, 1);
        CHECK.due("count(4) again", box.count(4), 41);
    }

    private static void mendsTheMended() {
        SkyBox box = new SkyBox();
        act(box, 10, 5);
        act(box, 10, 5);
        box.ready(0, 20);
        box.ready(0, 0);
        CHECK.due("plan(0)", box.plan(0), 20);
        order("planned", box, 0, 1);
        CHECK.due("mend(1)", box.mend(1), 20);
        order("mended", box, 1, 0);
        CHECK.due("1 begins first now", box.told(1, 1), 1);
        CHECK.due("0 begins late", box.told(0, 1), 21);
        CHECK.due("mend(2)", box.mend(2), 20);
        order("by what was mended, 1 stays", box, 1, 0);
        CHECK.due("0 begins behind it", box.told(0, 1), 6);
    }

    /** An ACT that is not in what is PLANNED is no match, whatever its MINUTES are. */
    private static void notInBoth() {
        SkyBox box = new SkyBox();
        act(box, 10, 5);
        act(box, 10, 5);
        act(box, 10, 5);
        box.birds(11, 240);
        box.ready(1, 239);
        box.ready(1, 0);
        CHECK.due("plan(2)", box.plan(2), 20);
        order("planned", box, 0, 2);
        CHECK.due("mend(3)", box.mend(3), 20);
        order("mended", box, 0, 2);
        CHECK.due("plan(3)", box.plan(3), 20);
        order("planned anew", box, 0, 1);
    }

    /** What is kept shows only with the second ACT, when the first has landed too late already. */
    private static void keepsAtTheCostOfTime() {
        SkyBox box = new SkyBox();
        act(box, 10, 5);
        box.ready(0, 9);
        box.ready(0, 0);
        box.plan(1);
        CHECK.due("planned late", box.told(0, 1), 10);
        box.act(0, 0, 10, 1, 20, 120);
        box.figure(1, 1, 0, 0, false);
        box.figure(1, 8, 0, 7, true);
        box.base(6, 5);
        CHECK.due("mend(3)", box.mend(3), 20);
        order("kept", box, 1, 0);
        CHECK.due("begins as before", box.told(0, 1), 10);
        CHECK.due("count(4)", box.count(4), 30);
        CHECK.due("plan(3)", box.plan(3), 20);
        order("planned anew", box, 0, 1);
        CHECK.due("count(4) anew", box.count(4), 27);
    }

    private static void emptyOnes() {
        SkyBox box = new SkyBox();
        act(box, 10, 5);
        CHECK.due("nothing is planned", box.mend(0), -1);
        CHECK.due("still nothing", box.count(3), -1);
        box.birds(0, 240);
        CHECK.due("plan(1)", box.plan(1), 0);
        CHECK.due("mend(1)", box.mend(1), 0);
        CHECK.due("an empty plan is mended", box.mend(0), 10);
        order("mended", box, 0);
        CHECK.due("no such n", box.mend(2), -1);
        CHECK.due("no such n", box.mend(-1), -1);
        order("it stays", box, 0);
        CHECK.due("mend(1) to nothing", box.mend(1), 0);
        order("nothing", box);
        CHECK.due("count(4)", box.count(4), -1);
    }
}
