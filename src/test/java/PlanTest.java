/** Promises 1, 18, 20, 21, 23, 24 and 25: a new object, THE PLAN and what is told of it, can. */
public final class PlanTest {
    private static final Check CHECK = new Check("PlanTest");

    public static void main(String[] args) {
        newObject();
        emptyPlans();
        oneActAlone();
        runwayOnTheWayUp();
        runwayOnTheWayDown();
        soonestLastLanding();
        latestLandingIsNotOfTheLastAct();
        firstOfTheAlike();
        worthlessActsStayDown();
        mostWorth();
        eveningEdge();
        aPlanStays();
        wrongNumbers();
        can();
        CHECK.end();
    }

    /** An ACT with one flat FIGURE of so many MINUTES. */
    private static void act(SkyBox box, int worth, int minutes, int climb, int home) {
        int number = box.act(0, 0, worth, climb, home, 120);
        box.figure(number, minutes, 0, 0, false);
    }

    private static void times(SkyBox box, int act, int... due) {
        for (int what = 0; what < due.length; what++) {
            CHECK.due("told(" + act + ", " + what + ")", box.told(act, what), due[what]);
        }
    }

    private static void order(SkyBox box, int... due) {
        for (int i = 0; i < due.length; i++) {
            CHECK.due("order(" + i + ")", box.order(i), due[i]);
        }
        CHECK.due("order(" + due.length + ")", box.order(due.length), -1);
        CHECK.due("count(3)", box.count(3), due.length);
    }

    private static void newObject() {
        SkyBox box = new SkyBox();
        int[] due = {0, 0, 0, -1, -1, 0, 0, 100};
        for (int what = 0; what < due.length; what++) {
            CHECK.due("count(" + what + ") of a new one", box.count(what), due[what]);
        }
        for (int what : new int[] {-1, 8, 9, Integer.MIN_VALUE, Integer.MAX_VALUE}) {
            CHECK.due("count(" + what + ")", box.count(what), -1);
        }
        CHECK.due("order(0)", box.order(0), -1);
        CHECK.due("told(0, 0)", box.told(0, 0), -1);
        CHECK.due("runway(0)", box.runway(0), -1);
        CHECK.due("mend(0)", box.mend(0), -1);
        CHECK.due("place()", box.place(), -1);
        CHECK.due("can(0)", box.can(0, -1, -1, -1, 0), -1);
        CHECK.due("objects share nothing", box.act(0, 0, 0, 1, 1, 1), 0);
        CHECK.due("objects share nothing", new SkyBox().count(0), 0);
    }

    private static void emptyPlans() {
        SkyBox box = new SkyBox();
        CHECK.due("plan(0) without acts", box.plan(0), 0);
        order(box);
        CHECK.due("count(4)", box.count(4), -1);
        box.act(0, 0, 50, 1, 1, 100);
        CHECK.due("an act without figures", box.plan(0), 0);
        order(box);
        CHECK.due("runway(0)", box.runway(0), -1);
    }

    private static void oneActAlone() {
        SkyBox box = new SkyBox();
        act(box, 30, 9, 6, 4);
        CHECK.due("plan(0)", box.plan(0), 30);
        order(box, 0);
        times(box, 0, 0, 6, 15, 19, 9);
        CHECK.due("count(4)", box.count(4), 19);
        CHECK.due("runway(0)", box.runway(0), 0);
        CHECK.due("runway(19)", box.runway(19), 100);
        CHECK.due("runway(6)", box.runway(6), -1);
        CHECK.due("runway(15)", box.runway(15), -1);
    }

    /** The later one would take off in the minute of the other's landing. */
    private static void runwayOnTheWayUp() {
        SkyBox box = new SkyBox();
        act(box, 10, 4, 2, 1);
        act(box, 10, 4, 2, 1);
        Check.read(box, "gap 3;");
        CHECK.due("plan(0)", box.plan(0), 20);
        order(box, 0, 1);
        // ends 6, lands 7; begins 9 and would take off in 7
        times(box, 0, 0, 2, 6, 7, 4);
        times(box, 1, 6, 9, 13, 14, 4);
        CHECK.due("count(4)", box.count(4), 14);
        CHECK.due("runway(6)", box.runway(6), 1);
        CHECK.due("runway(7)", box.runway(7), 100);
        CHECK.due("runway(14)", box.runway(14), 101);
        box.ready(1, 7);
        CHECK.due("plan(1)", box.plan(1), 20);
        order(box, 0, 1);
        // ready in the taken minute, so it waits for the next
        times(box, 1, 8, 10, 14, 15, 4);
    }

    /** The first has a long way home, so the second would land with it. */
    private static void runwayOnTheWayDown() {
        SkyBox box = new SkyBox();
        act(box, 10, 4, 1, 7);
        act(box, 10, 4, 1, 3);
        Check.read(box, "out if act==1 and ahead<0;");
        box.plan(0);
        order(box, 0, 1);
        times(box, 0, 0, 1, 5, 12, 4);
        times(box, 1, 4, 5, 9, 13, 4);
        CHECK.due("count(4)", box.count(4), 13);
    }

    private static void soonestLastLanding() {
        SkyBox box = new SkyBox();
        // the longer climb behind costs nothing, the longer way home ahead costs nothing
        act(box, 10, 5, 15, 1);
        act(box, 10, 5, 1, 9);
        CHECK.due("plan(0)", box.plan(0), 20);
        order(box, 1, 0);
        times(box, 1, 0, 1, 6, 15, 5);
        times(box, 0, 1, 16, 21, 22, 5);
        CHECK.due("count(4)", box.count(4), 22);
    }

    private static void latestLandingIsNotOfTheLastAct() {
        SkyBox box = new SkyBox();
        act(box, 10, 5, 1, 20);
        act(box, 10, 5, 1, 1);
        box.plan(0);
        order(box, 0, 1);
        times(box, 0, 0, 1, 6, 26, 5);
        times(box, 1, 5, 6, 11, 12, 5);
        CHECK.due("the latest of both", box.count(4), 26);
    }

    private static void firstOfTheAlike() {
        SkyBox box = new SkyBox();
        for (int i = 0; i < 6; i++) {
            act(box, 10, 5, 1, 1);
        }
        CHECK.due("all alike", box.plan(0), 60);
        order(box, 0, 1, 2, 3, 4, 5);
        box.birds(16, 240);
        CHECK.due("room for three", box.plan(1), 30);
        order(box, 0, 1, 2);
        box.ready(0, 1);
        CHECK.due("one of them late", box.plan(2), 30);
        order(box, 1, 0, 2);
        box.ready(0, 240 - 1);
        CHECK.due("one of them gone", box.plan(3), 30);
        order(box, 1, 2, 3);
    }

    private static void worthlessActsStayDown() {
        SkyBox box = new SkyBox();
        act(box, 0, 5, 1, 1);
        CHECK.due("only a worthless one", box.plan(0), 0);
        order(box);
        CHECK.due("count(4)", box.count(4), -1);
        act(box, 5, 5, 1, 20);
        CHECK.due("with one of worth", box.plan(0), 5);
        // the worthless one would land sooner, but an order that ends is ahead of one that goes on
        order(box, 1);
        CHECK.due("count(4)", box.count(4), 26);
    }

    private static void mostWorth() {
        SkyBox box = new SkyBox();
        act(box, 30, 9, 1, 1);
        act(box, 20, 4, 1, 1);
        act(box, 20, 4, 1, 1);
        box.birds(10, 240);
        CHECK.due("two small ones", box.plan(1), 40);
        order(box, 1, 2);
        box.act(0, 0, 41, 1, 1, 120);
        box.figure(3, 8, 0, 0, false);
        CHECK.due("one large one", box.plan(1), 41);
        order(box, 3);
        CHECK.due("without the birds", box.plan(0), 111);
        CHECK.due("count(3)", box.count(3), 4);
    }

    private static void eveningEdge() {
        SkyBox box = new SkyBox();
        act(box, 10, 9, 20, 20);
        box.birds(0, 210);
        box.birds(0, 211);
        CHECK.due("plan(1)", box.plan(1), 10);
        times(box, 0, 190, 210, 219, 239, 9);
        CHECK.due("runway(239)", box.runway(239), 100);
        CHECK.due("plan(2)", box.plan(2), 0);
        CHECK.due("can", box.can(0, -1, -1, -1, 2), -2);
    }

    private static void aPlanStays() {
        SkyBox box = new SkyBox();
        act(box, 10, 5, 1, 1);
        box.plan(0);
        box.figure(0, 3, 0, 0, false);
        act(box, 20, 5, 1, 1);
        box.birds(0, 240);
        Check.read(box, "out if 1==1;");
        box.ground(50, 0);
        order(box, 0);
        times(box, 0, 0, 1, 6, 7, 5);
        CHECK.due("count(4)", box.count(4), 7);
        CHECK.due("plan(2) is none", box.plan(2), -1);
        CHECK.due("plan(-1) is none", box.plan(-1), -1);
        CHECK.due("mend(2) is none", box.mend(2), -1);
        order(box, 0);
        times(box, 0, 0, 1, 6, 7, 5);
        CHECK.due("plan(1)", box.plan(1), 0);
        order(box);
        times(box, 0, -1, -1, -1, -1, -1);
        CHECK.due("runway(0)", box.runway(0), -1);
    }

    private static void wrongNumbers() {
        SkyBox box = new SkyBox();
        CHECK.due("plan(1)", box.plan(1), -1);
        CHECK.due("nothing happened", box.count(3), -1);
        act(box, 10, 5, 1, 1);
        act(box, 0, 5, 1, 1);
        box.plan(0);
        for (int wrong : new int[] {-1, 5, Integer.MIN_VALUE, Integer.MAX_VALUE}) {
            CHECK.due("told(0, " + wrong + ")", box.told(0, wrong), -1);
        }
        for (int wrong : new int[] {-1, 1, 2, 6, Integer.MIN_VALUE, Integer.MAX_VALUE}) {
            CHECK.due("told(" + wrong + ", 0)", box.told(wrong, 0), -1);
            CHECK.due("order(" + wrong + ")", box.order(wrong), -1);
        }
        for (int wrong : new int[] {-1, 240, Integer.MIN_VALUE, Integer.MAX_VALUE}) {
            CHECK.due("runway(" + wrong + ")", box.runway(wrong), -1);
        }
        for (int wrong : new int[] {-1, 1, Integer.MIN_VALUE, Integer.MAX_VALUE}) {
            CHECK.due("plan(" + wrong + ")", box.plan(wrong), -1);
            CHECK.due("mend(" + wrong + ")", box.mend(wrong), -1);
        }
        order(box, 0);
    }

    private static void can() {
        SkyBox box = new SkyBox();
        for (int i = 0; i < 5; i++) {
            act(box, 1 << i, 5, 1, 1);
        }
        box.birds(16, 240);
        CHECK.due("one", box.can(4, -1, -1, -1, 0), 16);
        CHECK.due("two", box.can(4, 0, -1, -1, 0), 17);
        CHECK.due("three", box.can(4, 0, 2, -1, 0), 21);
        CHECK.due("four", box.can(4, 0, 2, 3, 0), 29);
        CHECK.due("three as known by 1", box.can(4, 0, 2, -1, 1), 21);
        CHECK.due("four as known by 1", box.can(4, 0, 2, 3, 1), -2);
        CHECK.due("nothing is planned by it", box.count(3), -1);
        int[][] wrong = {{-1, -1, -1, -1, 0}, {-1, 0, -1, -1, 0}, {5, -1, -1, -1, 0}, {0, 5, -1, -1, 0},
            {0, 1, 5, -1, 0}, {0, 1, 2, 5, 0}, {0, -2, -1, -1, 0}, {0, 1, 2, -2, 0}, {0, -1, 1, -1, 0},
            {0, -1, -1, 1, 0}, {0, 1, -1, 2, 0}, {0, 0, -1, -1, 0}, {0, 1, 0, -1, 0}, {0, 1, 2, 0, 0},
            {0, 1, 1, -1, 0}, {0, 1, 2, 1, 0}, {0, 1, 2, 2, 0}, {0, -1, -1, -1, 2}, {0, -1, -1, -1, -1},
            {4, 0, 2, 5, 1}, {Integer.MAX_VALUE, -1, -1, -1, 0}, {0, Integer.MIN_VALUE, -1, -1, 0}};
        for (int[] w : wrong) {
            CHECK.due("can(" + w[0] + ", " + w[1] + ", " + w[2] + ", " + w[3] + ", " + w[4] + ")",
                    box.can(w[0], w[1], w[2], w[3], w[4]), -1);
        }
        box.plan(0);
        box.can(4, 3, -1, -1, 1);
        CHECK.due("a plan stays", box.count(3), 5);
    }
}
