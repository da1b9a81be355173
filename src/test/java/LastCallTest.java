/** An object is used for at most 512 calls: each of the first 512 is answered, the last one as the first. */
public final class LastCallTest {
    private static final Check CHECK = new Check("LastCallTest");
    private static final int CALLS = 512;

    public static void main(String[] args) {
        texts();
        plans();
        questions();
        refusals();
        CHECK.end();
    }

    /** 2,000 bytes fed, read, and fed again, up to the last call. */
    private static void texts() {
        SkyBox box = new SkyBox();
        int blank = 0x20202020;
        int calls = 0;
        while (calls + 102 < CALLS) {
            for (int i = 1; i <= 100; i++) {
                CHECK.due("feed", box.feed(blank, blank, blank, blank, blank), 20 * i);
            }
            CHECK.due("read", box.read(), 0);
            calls += 101;
        }
        while (calls + 1 < CALLS) {
            CHECK.due("place", box.place(), -1);
            calls++;
        }
        CHECK.due("the last call", box.feed(blank, blank, blank, blank, blank), 20);
    }

    /** Plans and mendings in turn, of six ACTS and 100 FACTS, the last of them the last call. */
    private static void plans() {
        SkyBox box = new SkyBox();
        int calls = 0;
        for (int act = 0; act < 6; act++) {
            box.act(act % 4, act, 100, 1, 1, 120);
            box.figure(act, 5, 0, 0, false);
            calls += 2;
        }
        for (int i = 0; i < 100; i++) {
            box.base(i, 5);
            calls++;
        }
        while (calls + 2 <= CALLS) {
            CHECK.due("plan " + calls, box.plan(calls % 101), 600);
            CHECK.due("mend " + calls, box.mend(calls % 101), 600);
            calls += 2;
        }
        CHECK.due("calls", calls, CALLS);
    }

    private static void questions() {
        SkyBox box = new SkyBox();
        box.act(3, 0, 7, 2, 3, 120);
        box.figure(0, 5, 0, 0, false);
        box.plan(0);
        for (int calls = 3; calls < CALLS; calls += 1) {
            switch (calls % 6) {
                case 0 -> CHECK.due("told", box.told(0, 3), 10);
                case 1 -> CHECK.due("runway", box.runway(10), 100);
                case 2 -> CHECK.due("can", box.can(0, -1, -1, -1, 0), 7);
                case 3 -> CHECK.due("out", box.out(0, 5, 0), -1);
                case 4 -> CHECK.due("length", box.length(0, 9), 5);
                default -> CHECK.due("count", box.count(4), 10);
            }
        }
    }

    /** Refused calls are calls too, and change nothing up to the last. */
    private static void refusals() {
        SkyBox box = new SkyBox();
        for (int calls = 0; calls < CALLS - 2; calls++) {
            switch (calls % 5) {
                case 0 -> CHECK.due("act", box.act(4, 0, 0, 1, 1, 1), -1);
                case 1 -> CHECK.due("base", box.base(240, 0), -1);
                case 2 -> CHECK.due("back", box.back(1), -1);
                case 3 -> CHECK.due("plan", box.plan(1), -1);
                default -> CHECK.due("ground", box.ground(51, 0), false);
            }
        }
        CHECK.due("an act is still number 0", box.act(0, 0, 0, 1, 1, 1), 0);
        CHECK.due("the last call", box.count(0), 1);
    }
}
