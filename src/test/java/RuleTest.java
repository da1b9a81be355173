/** Promise 22 (out), and what part II says of RULES: VARS, how an E is worked out, GAP and SPARE. */
public final class RuleTest {
    private static final Check CHECK = new Check("RuleTest");

    public static void main(String[] args) {
        firstOutRule();
        wrongOut();
        arithmetic();
        conditions();
        oneTextBehindAnother();
        varsOfTheFirst();
        varsOfALater();
        gap();
        gapByMinute();
        spare();
        CHECK.end();
    }

    /** ACT 0: KIND 2, PILOT 3, WORTH 40, 5 MINUTES, 7 if flown high. ACT 1 can't fly. */
    private static SkyBox box() {
        SkyBox box = new SkyBox();
        box.act(2, 3, 40, 1, 1, 100);
        box.figure(0, 5, 0, 2, false);
        box.figure(0, 2, 0, 6, true);
        box.act(1, 3, 9, 1, 1, 100);
        box.base(100, 6);
        box.base(150, 2);
        return box;
    }

    private static void firstOutRule() {
        SkyBox box = box();
        CHECK.due("no RULES", box.out(0, 10, 0), -1);
        Check.read(box, "gap 1 if 1==1; out if minute<10; spare 1; out if minute<20; out if minute<15;");
        CHECK.due("both hold", box.out(0, 9, 2), 1);
        CHECK.due("the second", box.out(0, 10, 2), 3);
        CHECK.due("the second, just", box.out(0, 19, 2), 3);
        CHECK.due("none", box.out(0, 20, 2), -1);
        CHECK.due("an act without figures", box.out(1, 9, 2), -1);
        Check.read(box, "out if 1==1;");
        CHECK.due("flown flat", box.out(0, 149, 2), 0);
        CHECK.due("it can't fly below 2", box.out(0, 150, 2), -1);
        CHECK.due("not known yet", box.out(0, 150, 1), 0);
        box.birds(0, 240);
        CHECK.due("birds are another thing", box.out(0, 149, 3), 0);
        CHECK.due("the last minute", box.out(0, 239, 0), 0);
    }

    private static void wrongOut() {
        SkyBox box = box();
        Check.read(box, "out if 1==1;");
        int[][] wrong = {{2, 0, 0}, {-1, 0, 0}, {0, -1, 0}, {0, 240, 0}, {0, 0, 3}, {0, 0, -1},
            {Integer.MAX_VALUE, 0, 0}, {0, Integer.MIN_VALUE, 0}, {0, 0, Integer.MAX_VALUE}};
        for (int[] w : wrong) {
            CHECK.due("out(" + w[0] + ", " + w[1] + ", " + w[2] + ")", box.out(w[0], w[1], w[2]), -1);
        }
    }

    private static void holds(String condition, boolean due) {
        SkyBox box = box();
        CHECK.due("read of " + condition, Check.read(box, "out if " + condition + ";"), 0);
        CHECK.due(condition, box.out(0, 100, 2), due ? 0 : -1);
    }

    private static void comesTo(String amount, int due) {
        holds(amount + "==" + due, true);
        holds(due + "==" + amount, true);
        holds(amount + "==" + (due + 1), false);
        holds(amount + "<" + due, false);
        holds(amount + "<" + (due + 1), true);
    }

    private static void arithmetic() {
        comesTo("1+2*3", 7);
        comesTo("(1+2)*3", 9);
        comesTo("10-3-2", 5);
        comesTo("10-(3-2)", 9);
        comesTo("10-(3-2)-(5-4)*2", 7);
        comesTo("2*3*4-1", 23);
        comesTo("2*(3+4)*(5-6)+20", 6);
        comesTo("1-2*3+4+1", 0);
        comesTo("0007", 7);
        comesTo("9998", 9998);
        // with all that can wait ahead of each of six brackets
        comesTo("1+2*(1+2*(1+2*(1+2*(1+2*(1+2*(1+2*3))))))", 511);
        holds("1==2 or 1==1 and 511==1+2*(1+2*(1+2*(1+2*(1+2*(1+2*(1+2*3))))))", true);
        holds("1==2 or 1==1 and 512==1+2*(1+2*(1+2*(1+2*(1+2*(1+2*(1+2*3))))))", false);
        holds("9999*9999*9999<0", true);
        // 2^31 wraps to below 0
        holds("8*1024*1024*256<0", true);
        holds("8*1024*1024*256==0-8*1024*1024*256", true);
        holds("8*1024*1024*256-1<0", false);
        holds("8*1024*1024*256-1+1<0", true);
        holds("1024*1024*1024*4==0", true);
        // a difference of the two sides would wrap
        holds("0-8*1024*1024*256<1", true);
        holds("8*1024*1024*256<8*1024*1024*256-1", true);
    }

    private static void conditions() {
        holds("1==1", true);
        holds("1==2", false);
        holds("1!=2", true);
        holds("1!=1", false);
        holds("1<2", true);
        holds("2<2", false);
        holds("2<=2", true);
        holds("3<=2", false);
        holds("1==1 and 1==2", false);
        holds("1==1 or 1==2", true);
        holds("1==2 or 1==2", false);
        holds("1==1 or 1==1 and 1==2", true);
        holds("1==2 and 1==1 or 1==1", true);
        holds("1==2 and 1==1 or 1==1 and 1==2", false);
        holds("1==1 and 1==1 and 1==1", true);
        holds("1==2 or 1==2 or 1==1", true);
        holds("1+1<2*2 and 3-1==2", true);
    }

    /** Nothing is left in the reader, or in a text, of what was read ahead. */
    private static void oneTextBehindAnother() {
        SkyBox box = box();
        String[] broken = {"gap 1+2*(3-(4", "out if 1==2 and 2==3 or 1", "gap 1 if 1==2+(", "out"};
        // eight rounds are some 400 calls, and an object is good for 512
        for (int i = 0; i < 8; i++) {
            CHECK.due("a broken one", Check.read(box, broken[i % 4]), 1);
            CHECK.due("a long one", Check.read(box, "gap 1" + "+1".repeat(190) + ";"), 0);
            CHECK.due("a long one again", Check.read(box, "gap 1" + "+1".repeat(190) + ";"), 0);
            CHECK.due("a short one", Check.read(box, "out if minute==2*(3+4)-" + i + ";"), 0);
            CHECK.due("holds behind others", box.out(0, 14 - i, 2), 0);
            CHECK.due("holds not behind others", box.out(0, 20, 2), -1);
        }
    }

    private static void varsOfTheFirst() {
        holds("act==0", true);
        holds("kind==2", true);
        holds("ahead==0-1", true);
        holds("same==0", true);
        holds("base==6", true);
        holds("minute==100", true);
        holds("wind==0", true);
        holds("length==5", true);
        holds("worth==40", true);
        SkyBox box = box();
        box.act(3, 1, 55, 1, 1, 100);
        box.figure(2, 3, 0, 0, false);
        box.ground(33, 100);
        Check.read(box, "out if act==2 and kind==3 and base==9 and minute==99 and wind==33 and length==3 and worth==55;");
        CHECK.due("all vars of another act", box.out(2, 99, 2), 0);
        Check.read(box, "out if length==7;");
        CHECK.due("length, high", box.out(0, 99, 2), 0);
    }

    /** Three short ACTS of PILOTS 1, 2, 1 and KINDS 3, 0, 1. */
    private static SkyBox three() {
        SkyBox box = new SkyBox();
        int[][] kindsAndPilots = {{3, 1}, {0, 2}, {1, 1}};
        for (int i = 0; i < 3; i++) {
            box.act(kindsAndPilots[i][0], kindsAndPilots[i][1], 10, 1, 1, 100);
            box.figure(i, 4, 0, 0, false);
        }
        return box;
    }

    private static void varsOfALater() {
        SkyBox box = three();
        Check.read(box, "out if ahead==3;");
        CHECK.due("behind KIND 3", box.can(0, 1, -1, -1, 0), -2);
        CHECK.due("ahead of KIND 3", box.can(1, 0, -1, -1, 0), 20);
        CHECK.due("KIND 3 last", box.can(1, 2, 0, -1, 0), 30);
        CHECK.due("only the last one counts", box.can(0, -1, -1, -1, 0), 10);
        Check.read(box, "out if ahead==0-1 and act==0;");
        CHECK.due("not as the first", box.can(0, -1, -1, -1, 0), -2);
        CHECK.due("as the second", box.can(1, 0, -1, -1, 0), 20);
        Check.read(box, "out if same==1;");
        CHECK.due("its pilot flew the one ahead", box.can(0, 2, -1, -1, 0), -2);
        CHECK.due("its pilot flew two ahead", box.can(0, 1, 2, -1, 0), -2);
        CHECK.due("another pilot", box.can(0, 1, -1, -1, 0), 20);
        Check.read(box, "out if 1<same;");
        CHECK.due("one is not two", box.can(0, 1, 2, -1, 0), 30);
        box.act(0, 1, 10, 1, 1, 100);
        box.figure(3, 4, 0, 0, false);
        CHECK.due("two are", box.can(0, 2, 3, -1, 0), -2);
    }

    private static int beginOfSecond(String text) {
        SkyBox box = three();
        CHECK.due("read of " + text, Check.read(box, text + "out if act==2;"), 0);
        CHECK.due("plan by " + text, box.plan(0), 20);
        return box.told(box.order(1), 1);
    }

    private static void gap() {
        CHECK.due("no gap", beginOfSecond(""), 5);
        CHECK.due("gap 0", beginOfSecond("gap 0;"), 5);
        CHECK.due("gap 3", beginOfSecond("gap 3;"), 8);
        CHECK.due("gap 30", beginOfSecond("gap 30;"), 35);
        CHECK.due("gap 31 is 30", beginOfSecond("gap 31;"), 35);
        CHECK.due("gap 9999 is 30", beginOfSecond("gap 9999;"), 35);
        CHECK.due("a gap below 0 is 0", beginOfSecond("gap 0-5;"), 5);
        CHECK.due("the first gap", beginOfSecond("gap 4;gap 2;"), 9);
        CHECK.due("the first that holds", beginOfSecond("gap 4 if ahead==2;gap 2;"), 7);
        CHECK.due("an amount of vars", beginOfSecond("gap worth-2;"), 13);
        CHECK.due("none holds", beginOfSecond("gap 4 if 1==2;"), 5);
        CHECK.due("a spare is no gap", beginOfSecond("spare 4;"), 5);
    }

    private static void gapByMinute() {
        CHECK.due("a gap of the minute in which it would begin",
                beginOfSecond("gap 20 if minute<18;gap 5;"), 18);
        CHECK.due("a gap that goes down", beginOfSecond("gap 20-minute;"), 13);
        SkyBox box = three();
        Check.read(box, "gap 30;");
        box.plan(0);
        CHECK.due("no gap ahead of the first", box.told(box.order(0), 1), 1);
    }

    private static void spare() {
        SkyBox box = new SkyBox();
        box.act(0, 0, 10, 3, 4, 40);
        box.figure(0, 5, 0, 0, false);
        // takes 3 + 5 + 4 = 12 of 40
        String[] texts = {"spare 28;", "spare 29;", "spare 30;", "spare 9999;", "spare 0-1;", "gap 30;",
            "spare 29 if 1==2;spare 28;", "spare 28;spare 30;", "spare 30 if minute<50;"};
        int[] due = {10, -2, -2, -2, 10, 10, 10, 10, 10};
        for (int i = 0; i < texts.length; i++) {
            Check.read(box, texts[i]);
            CHECK.due("can by " + texts[i], box.can(0, -1, -1, -1, 0), due[i]);
        }
        box.plan(0);
        CHECK.due("the spare of the minute in which it begins", box.told(0, 1), 50);
        box.act(0, 0, 1, 1, 1, 5);
        box.figure(1, 3, 0, 0, false);
        Check.read(box, "");
        CHECK.due("just the fuel", box.can(1, -1, -1, -1, 0), 1);
        box.figure(1, 1, 0, 0, false);
        CHECK.due("more than the fuel", box.can(1, -1, -1, -1, 0), -2);
        box.act(0, 0, 2, 1, 1, 33);
        box.figure(2, 1, 0, 0, false);
        Check.read(box, "spare 9999;");
        CHECK.due("a spare is held to 30", box.can(2, -1, -1, -1, 0), 2);
    }
}
