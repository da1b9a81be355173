/** Promises 2 (feed), 3 (back), and what count(5) tells of them. */
public final class TapeTest {
    private static final int BLANKS = 0x20202020;

    public static void main(String[] args) {
        Check check = new Check("TapeTest");
        sizes(check);
        byteOrder(check);
        fullTape(check);
        wrongBacks(check);
        check.end();
    }

    private static void sizes(Check check) {
        SkyBox box = new SkyBox();
        check.due("count(5) of a new one", box.count(5), 0);
        check.due("feed", box.feed(0, 0, 0, 0, 0), 20);
        check.due("count(5)", box.count(5), 20);
        check.due("back(7)", box.back(7), 13);
        check.due("back(0)", box.back(0), 13);
        check.due("feed behind 13", box.feed(0, 0, 0, 0, 0), 33);
        check.due("back of all", box.back(33), 0);
        check.due("back(0) of nothing", box.back(0), 0);
        check.due("back(1) of nothing", box.back(1), -1);
    }

    /** The bytes stand in the sequence a .. e, the highest of each first. */
    private static void byteOrder(Check check) {
        String text = "gap 1 + 2 * 3 + 4 ; ";
        for (int at = 0; at < text.length(); at++) {
            if (text.charAt(at) != ' ') {
                SkyBox box = new SkyBox();
                String spoilt = text.substring(0, at) + '?' + text.substring(at + 1);
                Check.feed(box, spoilt);
                check.due("read of " + spoilt, box.read(), 1);
                check.due("place in " + spoilt, box.place(), at < 3 && at > 0 ? 0 : at);
            }
        }
        SkyBox box = new SkyBox();
        Check.feed(box, "gap 1;");
        Check.feed(box, "gap 2;");
        check.due("count(5) of two", box.count(5), 12);
        check.due("read of two", box.read(), 0);
        check.due("both are there", box.count(2), 2);
        check.due("the tape is empty then", box.count(5), 0);
        Check.feed(box, "gap?");
        check.due("read of a fault", box.read(), 1);
        check.due("the tape is empty behind a fault too", box.count(5), 0);
    }

    private static void fullTape(Check check) {
        SkyBox box = new SkyBox();
        for (int i = 1; i <= 100; i++) {
            check.due("feed " + i, box.feed(BLANKS, BLANKS, BLANKS, BLANKS, BLANKS), 20 * i);
        }
        check.due("feed beyond 2000", box.feed(-1, -1, -1, -1, -1), -1);
        check.due("count(5) behind it", box.count(5), 2000);
        check.due("back(19)", box.back(19), 1981);
        check.due("feed to 2001", box.feed(-1, -1, -1, -1, -1), -1);
        check.due("count(5) stays", box.count(5), 1981);
        check.due("back(1)", box.back(1), 1980);
        check.due("feed to 2000 again", box.feed(BLANKS, BLANKS, BLANKS, BLANKS, -1), 2000);
        check.due("read", box.read(), 1);
        check.due("place of a byte at the end", box.place(), 1996);
    }

    private static void wrongBacks(Check check) {
        SkyBox box = new SkyBox();
        box.feed(1, 2, 3, 4, 5);
        check.due("back(-1)", box.back(-1), -1);
        check.due("back(least)", box.back(Integer.MIN_VALUE), -1);
        check.due("back(21)", box.back(21), -1);
        check.due("back(most)", box.back(Integer.MAX_VALUE), -1);
        check.due("nothing went", box.count(5), 20);
    }
}
