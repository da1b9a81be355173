/** Part II: VARS at their least and most, ints that wrap, the numbers of RULES, GAP and SPARE. */
public final class HeldTest {
    private static final Check CHECK = new Check("HeldTest");

    public static void main(String[] args) {
        numbersOfRules();
        actVar();
        kindVar();
        aheadVar();
        sameVar();
        baseVar();
        minuteVar();
        windVar();
        lengthVar();
        worthVar();
        intsThatWrap();
        comparedAtTheEdges();
        relationsJoined();
        gapIsHeld();
        spareIsHeld();
        firstThatHolds();
        likewiseSpare();
        CHECK.end();
    }

    /** ACTS of 5 MINUTES, CLIMB and HOME 1, each of the KIND and PILOT given as two digits. */
    private static SkyBox acts(int... kindsAndPilots) {
        SkyBox box = new SkyBox();
        for (int i = 0; i < kindsAndPilots.length; i++) {
            box.act(kindsAndPilots[i] / 10, kindsAndPilots[i] % 10, 10, 1, 1, 60);
            box.figure(i, 5, 0, 0, false);
        }
        return box;
    }

    private static void read(SkyBox box, String text) {
        CHECK.due("read of " + text, Check.read(box, text), 0);
    }

    /** RULES are numbered from 0 on, all kinds together, up to 15. */
    private static void numbersOfRules() {
        SkyBox box = acts(0);
        for (int number = 0; number < 16; number++) {
            read(box, rules(number) + "out if 1==1;" + (number < 15 ? "out if 1==1;" : ""));
            CHECK.due("out RULE " + number, box.out(0, 100, 0), number);
        }
    }

    private static String rules(int number) {
        StringBuilder text = new StringBuilder();
        String[] each = {"gap 1;", "spare 1;", "out if 1==2;"};
        for (int i = 0; i < number; i++) {
            text.append(each[i % 3]);
        }
        return text.toString();
    }

    /** A VAR has this value, and no other, for an ACT as the first one in a MINUTE. */
    private static void is(SkyBox box, int act, int minute, String var, int value) {
        String name = var + " of " + act + " in " + minute + " is " + value;
        String shown = value < 0 ? "0-" + -value : "" + value;
        Check.read(box, "out if " + var + "==" + shown + ";");
        CHECK.due(name, box.out(act, minute, box.count(1)), 0);
        Check.read(box, "out if " + var + "!=" + shown + ";");
        CHECK.due(name + ", no other", box.out(act, minute, box.count(1)), -1);
    }

    private static void actVar() {
        SkyBox box = acts(0, 0, 0, 0, 0, 0);
        for (int act = 0; act < 6; act++) {
            is(box, act, 100, "act", act);
        }
    }

    private static void kindVar() {
        SkyBox box = acts(0, 10, 20, 30);
        for (int act = 0; act < 4; act++) {
            is(box, act, 100, "kind", act);
        }
    }

    /** The KIND of the ACT that was in the box last (-1 none). */
    private static void aheadVar() {
        SkyBox box = acts(0, 10, 20, 30);
        for (int act = 0; act < 4; act++) {
            is(box, act, 100, "ahead", -1);
        }
        for (int first = 0; first < 4; first++) {
            int second = (first + 1) % 4;
            int third = (first + 2) % 4;
            read(box, "out if act==" + second + " and ahead!=" + first + ";out if act==" + first + " and ahead!=0-1;");
            CHECK.due("behind " + first, box.can(first, second, -1, -1, 0), 20);
            CHECK.due("not behind " + third, box.can(third, second, -1, -1, 0), -2);
            CHECK.due("not behind one and another", box.can(first, third, second, -1, 0), -2);
            CHECK.due("behind another and one: it is not the first then", box.can(third, first, second, -1, 0), -2);
        }
    }

    /** How many ACTS its PILOT flew ahead: 0 up to 5. */
    private static void sameVar() {
        for (int pilot : new int[] {0, 7}) {
            SkyBox box = acts(pilot, pilot, pilot, pilot, pilot, pilot);
            is(box, 0, 100, "same", 0);
            for (int same = 0; same < 6; same++) {
                read(box, "out if same==" + same + ";");
                CHECK.due("up to " + same + " ahead", box.plan(0), 10 * same);
                read(box, "out if " + same + "<same;");
                CHECK.due("and one more", box.plan(0), 10 * (same + 1));
            }
            read(box, "out if same==6;out if same<0;");
            CHECK.due("six can't be ahead", box.plan(0), 60);
        }
        SkyBox box = acts(0, 1, 0, 7);
        read(box, "out if same!=0;");
        CHECK.due("of others there is none", box.can(0, 1, 3, -1, 0), 30);
        CHECK.due("of its own there is one", box.can(0, 1, 2, -1, 0), -2);
        read(box, "out if act==2 and same!=1;");
        CHECK.due("just the one, last but one", box.can(0, 1, 2, -1, 0), 30);
        CHECK.due("just the one, last", box.can(1, 0, 2, -1, 0), 30);
        CHECK.due("behind it is not ahead", box.can(1, 2, 0, -1, 0), -2);
    }

    /** The BASE of that MINUTE: 1 up to 9, as by 0 none can fly. */
    private static void baseVar() {
        for (int base = 1; base < 10; base++) {
            SkyBox box = acts(0);
            box.base(100, base);
            box.base(101, 10 - base);
            is(box, 0, 100, "base", base);
            is(box, 0, 101, "base", 10 - base);
            is(box, 0, 99, "base", 9);
        }
        SkyBox box = acts(0);
        box.base(100, 0);
        read(box, "out if base==0;out if 1==1;");
        CHECK.due("by base 0 it can't fly", box.out(0, 100, 1), -1);
        CHECK.due("by base 9 it can", box.out(0, 99, 1), 1);
    }

    private static void minuteVar() {
        SkyBox box = acts(0);
        for (int minute : new int[] {0, 1, 119, 238, 239}) {
            is(box, 0, minute, "minute", minute);
        }
    }

    private static void windVar() {
        SkyBox box = acts(0);
        is(box, 0, 100, "wind", 0);
        for (int wind : new int[] {50, 1, 0}) {
            box.ground(wind, 100);
            is(box, 0, 100, "wind", wind);
        }
        read(box, "out if wind==7;");
        CHECK.due("wind as it is", box.out(0, 100, 0), -1);
        box.ground(7, 100);
        CHECK.due("wind as it has become", box.out(0, 100, 0), 0);
    }

    /** Its MINUTES in the box then: 1 up to 54, by the BASE of that MINUTE. */
    private static void lengthVar() {
        SkyBox box = new SkyBox();
        box.act(0, 0, 10, 1, 1, 60);
        box.figure(0, 1, 0, 0, false);
        is(box, 0, 100, "length", 1);
        box.act(0, 0, 10, 1, 1, 60);
        for (int i = 0; i < 6; i++) {
            box.figure(1, 9, 0, 0, false);
        }
        is(box, 1, 100, "length", 54);
        box.act(0, 0, 10, 1, 1, 60);
        box.figure(2, 3, 0, 2, false);
        box.figure(2, 4, 0, 6, true);
        box.base(100, 6);
        is(box, 2, 99, "length", 7);
        is(box, 2, 100, "length", 3);
    }

    private static void worthVar() {
        for (int worth : new int[] {0, 1, 99, 100}) {
            SkyBox box = new SkyBox();
            box.act(0, 0, worth, 1, 1, 60);
            box.figure(0, 5, 0, 0, false);
            is(box, 0, 100, "worth", worth);
        }
    }

    private static void holds(String condition, boolean due) {
        SkyBox box = acts(0);
        read(box, "out if " + condition + ";");
        CHECK.due(condition, box.out(0, 100, 0), due ? 0 : -1);
    }

    /** Ints of 32 bits that wrap. 4 * 512 * 1024 * 1024 is 2^31, which wraps to the least int. */
    private static void intsThatWrap() {
        String least = "4*512*1024*1024";
        String most = "(" + least + "-1)";
        holds(least + "<0", true);
        holds("0<" + most, true);
        holds(most + "+1==" + least, true);
        holds(least + "-1==" + most, true);
        holds("0-" + least + "==" + least, true);
        holds("0-" + most + "==" + least + "+1", true);
        holds(most + "+" + most + "==0-2", true);
        holds(least + "+" + least + "==0", true);
        holds("2*" + most + "==0-2", true);
        holds(most + "*" + most + "==1", true);
        holds("2*(" + least + ")==0", true);
        holds("1024*1024*1024<0", false);
        holds("1024*1024*1024*2<0", true);
        holds("1024*1024*1024*4==0", true);
        holds("9999*9999==9998*9999+9999", true);
        // 46341 squared is above 2^31 - 1, 46340 squared is not
        holds("(4634*10)*(4634*10)<0", false);
        holds("(4634*10+1)*(4634*10+1)<0", true);
        holds("9999*9999*9999*9999-9999*9999*9999*9999==0", true);
    }

    /** Both sides far apart: which is less is no matter of their difference, which would wrap. */
    private static void comparedAtTheEdges() {
        String least = "4*512*1024*1024";
        String most = "(" + least + "-1)";
        holds(least + "<" + most, true);
        holds(most + "<" + least, false);
        holds(least + "<=" + most, true);
        holds(most + "<=" + least, false);
        holds(least + "==" + most, false);
        holds(least + "!=" + most, true);
        holds(least + "<" + least, false);
        holds(least + "<=" + least, true);
        holds("0-1<0", true);
        holds("0-1<=0-1", true);
        holds("0-1<0-1", false);
        holds("0<0-1", false);
    }

    /** COND: ALL {'or' ALL}. ALL: REL {'and' REL}. Each REL beside each other, true and not. */
    private static void relationsJoined() {
        String[] rels = {"1==1", "1!=2", "1<2", "1<=2", "2<=2", "1==2", "1!=1", "2<2", "3<=2"};
        int trueOnes = 5;
        for (int i = 0; i < rels.length; i++) {
            boolean first = i < trueOnes;
            for (int j = 0; j < rels.length; j++) {
                boolean second = j < trueOnes;
                holds(rels[i] + " and " + rels[j], first && second);
                holds(rels[i] + " or " + rels[j], first || second);
            }
        }
        for (int bits = 0; bits < 16; bits++) {
            boolean[] is = new boolean[4];
            String[] rel = new String[4];
            for (int i = 0; i < 4; i++) {
                is[i] = (bits >> i & 1) == 1;
                rel[i] = is[i] ? "1<=1" : "1<1";
            }
            holds(rel[0] + " or " + rel[1] + " and " + rel[2] + " or " + rel[3], is[0] || is[1] && is[2] || is[3]);
            holds(rel[0] + " and " + rel[1] + " or " + rel[2] + " and " + rel[3], is[0] && is[1] || is[2] && is[3]);
            holds(rel[0] + " and " + rel[1] + " and " + rel[2] + " or " + rel[3], is[0] && is[1] && is[2] || is[3]);
        }
    }

    /** When a second ACT begins; the first has ended in MINUTE 6. */
    private static int secondBegins(String text) {
        SkyBox box = acts(0, 0);
        read(box, text);
        box.plan(0);
        return box.told(1, 1);
    }

    /** GAP: held to 0 .. 30; 0 without. */
    private static void gapIsHeld() {
        CHECK.due("no text", secondBegins(""), 6);
        String[] amounts = {"0", "1", "2", "29", "30", "31", "9999", "0-1", "0-9999", "4*512*1024*1024",
            "4*512*1024*1024-1", "1024*1024*1024*4+5", "ahead", "0-ahead", "ahead-1"};
        int[] due = {0, 1, 2, 29, 30, 30, 30, 0, 0, 0, 30, 5, 0, 0, 0};
        for (int i = 0; i < amounts.length; i++) {
            CHECK.due("gap " + amounts[i], secondBegins("gap " + amounts[i] + ";"), 6 + due[i]);
            CHECK.due("gap " + amounts[i] + " if", secondBegins("gap " + amounts[i] + " if 1==1;"), 6 + due[i]);
            CHECK.due("gap " + amounts[i] + " if not", secondBegins("gap " + amounts[i] + " if 1==2;"), 6);
        }
    }

    /** Whether an ACT can be that takes 12 MINUTES from its take off to its landing. */
    private static boolean flies(int fuel, String text) {
        SkyBox box = new SkyBox();
        box.act(0, 0, 10, 3, 4, fuel);
        box.figure(0, 5, 0, 0, false);
        read(box, text);
        int can = box.can(0, -1, -1, -1, 0);
        CHECK.due("plan with " + fuel + " and " + text, box.plan(0), can == 10 ? 10 : 0);
        return can == 10;
    }

    private static void spares(String text, int due) {
        CHECK.due(text + " leaves enough of " + (12 + due), flies(12 + due, text), true);
        CHECK.due(text + " leaves too little of " + (11 + due), flies(11 + due, text), false);
    }

    /** SPARE likewise; l - t is at most FUEL less SPARE. */
    private static void spareIsHeld() {
        spares("", 0);
        String[] amounts = {"0", "1", "29", "30", "31", "9999", "0-1", "0-9999", "4*512*1024*1024",
            "4*512*1024*1024-1", "1024*1024*1024*4+5", "ahead", "length", "worth"};
        int[] due = {0, 1, 29, 30, 30, 30, 0, 0, 0, 30, 5, 0, 5, 10};
        for (int i = 0; i < amounts.length; i++) {
            spares("spare " + amounts[i] + ";", due[i]);
            spares("spare " + amounts[i] + " if 1==1;", due[i]);
            spares("spare " + amounts[i] + " if 1==2;", 0);
        }
        CHECK.due("less FUEL than SPARE", flies(1, "spare 30;"), false);
        CHECK.due("the most of both", flies(120, "spare 9999;"), true);
    }

    /** The E of the first gap RULE that holds (or has no COND). */
    private static void firstThatHolds() {
        CHECK.due("the first of two", secondBegins("gap 3;gap 9;"), 9);
        CHECK.due("the first, with a COND that holds", secondBegins("gap 3 if 1==1;gap 9;"), 9);
        CHECK.due("not one that does not hold", secondBegins("gap 3 if 1==2;gap 9;"), 15);
        CHECK.due("none holds", secondBegins("gap 3 if 1==2;gap 9 if 1==2;"), 6);
        CHECK.due("the last of sixteen", secondBegins("gap 3 if 1==2;".repeat(15) + "gap 9;"), 15);
        CHECK.due("a first of 0 is one", secondBegins("gap 0;gap 9;"), 6);
        CHECK.due("a first below 0 is one", secondBegins("gap 0-5;gap 9;"), 6);
        CHECK.due("others between", secondBegins("spare 7;out if 1==2;gap 3;spare 8;gap 9;"), 9);
        CHECK.due("for the first ACT there is none", secondBegins("gap 9 if ahead==0-1;gap 3;"), 9);
    }

    private static void likewiseSpare() {
        spares("spare 3;spare 9;", 3);
        spares("spare 3 if 1==1;spare 9;", 3);
        spares("spare 3 if 1==2;spare 9;", 9);
        spares("spare 3 if 1==2;".repeat(15) + "spare 9;", 9);
        spares("spare 0;spare 9;", 0);
        spares("spare 0-5;spare 9;", 0);
        spares("gap 7;out if 1==2;spare 3;gap 8;spare 9;", 3);
        spares("gap 30;", 0);
        spares("out if 1==2;", 0);
    }
}
