/** Part II: the bytes of THE TEXT and its TOKENS, each byte and each bound by a text of its own. */
public final class BytesTest {
    private static final Check CHECK = new Check("BytesTest");

    public static void main(String[] args) {
        everyByteBehindAnInt();
        everyByteBehindAWord();
        everyByteAlone();
        blanksBetweenOrNot();
        blanksWithinASign();
        wordsOfEightLetters();
        intsOfFourDigits();
        longestSigns();
        signsThatAreNone();
        bytesOfEachPlace();
        bytesThatWentBack();
        bytesOfTheTextAhead();
        fullTexts();
        endOfAFullText();
        CHECK.end();
    }

    private static String shown(String text) {
        StringBuilder shown = new StringBuilder("\"");
        for (char each : text.length() > 60 ? text.substring(0, 60).toCharArray() : text.toCharArray()) {
            shown.append(each > 31 && each < 127 ? "" + each : "<" + (int) each + ">");
        }
        return shown + "\" of " + text.length();
    }

    private static void good(String text) {
        SkyBox box = new SkyBox();
        CHECK.due("read of " + shown(text), Check.read(box, text), 0);
        CHECK.due("place of " + shown(text), box.place(), -1);
    }

    private static void bad(String text, int place) {
        SkyBox box = new SkyBox();
        CHECK.due("read of " + shown(text), Check.read(box, text), 1);
        CHECK.due("place of " + shown(text), box.place(), place);
    }

    private static boolean isBlank(int sign) {
        return sign == 9 || sign == 10 || sign == 13 || sign == 32;
    }

    private static boolean isDigit(int sign) {
        return sign >= 48 && sign <= 57;
    }

    private static boolean isLetter(int sign) {
        return sign >= 97 && sign <= 122;
    }

    /** All 256 bytes behind an INT that a ; must follow: blanks part, digits go on, an operator wants a UNIT. */
    private static void everyByteBehindAnInt() {
        for (int sign = 0; sign < 256; sign++) {
            String text = "gap 1" + (char) sign + ";";
            if (isBlank(sign) || isDigit(sign)) {
                good(text);
            } else {
                bad(text, "+-*;".indexOf(sign) >= 0 ? 6 : 5);
            }
        }
    }

    /** All 256 bytes behind a WORD: letters make another one of it, which begins where it began. */
    private static void everyByteBehindAWord() {
        for (int sign = 0; sign < 256; sign++) {
            String text = "gap" + (char) sign + "1;";
            if (isBlank(sign) || isDigit(sign)) {
                good(text);
            } else {
                bad(text, isLetter(sign) ? 0 : sign == '(' ? 5 : 3);
            }
        }
    }

    /** A text of one byte: a blank is a text without RULES, all others are no text. */
    private static void everyByteAlone() {
        for (int sign = 0; sign < 256; sign++) {
            if (isBlank(sign)) {
                good("" + (char) sign);
            } else {
                bad("" + (char) sign, 0);
            }
        }
    }

    /** With blanks (9, 10, 13, 32) between or not. */
    private static void blanksBetweenOrNot() {
        good("gap(1+act)*2if kind<3and(1)!=2or 4<=same;");
        for (int blank : new int[] {9, 10, 13, 32}) {
            String between = "" + (char) blank;
            String text = " gap ( 1 + act ) * 2 if kind < 3 and ( 1 ) != 2 or 4 <= same ; out if 1 == 2 ; ";
            good(text.replace(" ", between));
            good(text.replace(" ", between + between + between));
            bad(("gap 1 " + "gap").replace(" ", between), 6);
        }
        // a WORD next to a WORD is one, an INT next to an INT too
        bad("gapact;", 0);
        bad("gap 1 ifact==1;", 6);
        bad("gap 1 2;", 6);
        good("gap 12;");
        good("gap1if1==1and2==2or3==3;");
    }

    /** A blank ends a TOKEN also where both parts would be one. */
    private static void blanksWithinASign() {
        for (int blank : new int[] {9, 10, 13, 32}) {
            bad("out if 1=" + (char) blank + "=1;", 8);
            bad("out if 1!" + (char) blank + "=1;", 8);
            bad("out if 1<" + (char) blank + "=1;", 10);
            bad("g" + (char) blank + "ap 1;", 0);
            bad("gap 1" + (char) blank + "1;", 6);
        }
    }

    /** WORDS (letters a .. z, 8 at most): a longer one is no TOKEN, and there is none of the grammar's in it. */
    private static void wordsOfEightLetters() {
        bad("gap abcdefgh;", 4);
        bad("gap abcdefghi;", 4);
        bad("gap a;", 4);
        bad("gap z;", 4);
        bad("lengthout if 1==1;", 0);
        bad("gap minutemi;", 4);
        bad("gap minuteminute;", 4);
        bad("outoutoutgap 1;", 0);
        bad("aaaaaaaagap 1;", 0);
        bad("gap " + "a".repeat(1990) + ";", 4);
        bad("a".repeat(2000), 0);
        for (String word : new String[] {"out", "gap", "spare", "if", "or", "and", "act", "kind", "ahead", "same", "base",
            "minute", "wind", "length", "worth"}) {
            bad("gap " + word.substring(0, word.length() - 1) + ";", 4);
            bad("gap " + word + "z;", 4);
            bad("gap a" + word + ";", 4);
            bad("gap " + word.toUpperCase() + ";", 4);
        }
    }

    /** INTS (1 to 4 digits): a longer one is no TOKEN. */
    private static void intsOfFourDigits() {
        for (String number : new String[] {"0", "9", "10", "99", "100", "999", "1000", "9999", "0000", "0001"}) {
            good("gap " + number + ";");
        }
        for (String number : new String[] {"10000", "00000", "00001", "99999", "123456789", "4294967296", "4294967297"}) {
            bad("gap " + number + ";", 4);
            bad("out if 1==" + number, 10);
        }
        bad("gap " + "1".repeat(1990) + ";", 4);
        good("gap 9999*9999;");
        bad("gap 1234 5;", 9);
    }

    /** SIGNS, the longest that can be. */
    private static void longestSigns() {
        good("out if 1<2;");
        good("out if 1<=2;");
        good("out if 1==2;");
        good("out if 1!=2;");
        bad("out if 1<==2;", 10);
        bad("out if 1===2;", 10);
        bad("out if 1====2;", 10);
        bad("out if 1!==2;", 10);
        bad("out if 1<<2;", 9);
        bad("out if 1<<=2;", 9);
        bad("out if 1<!=2;", 9);
        bad("out if 1=<2;", 8);
    }

    /** All else is no TOKEN; of = and ! alone there is none either. */
    private static void signsThatAreNone() {
        for (String sign : new String[] {"=", "!", ">", ">=", "=>", "<>", "&&", "||", "/", "%", ",", ".", ":", "\"", "'",
            "[", "]", "{", "}", "_", "#", "@", "`", "~", "^", "\\", "$", "?"}) {
            bad("out if 1 " + sign + " 2;", sign.equals("<>") ? 10 : 9);
            bad(sign, 0);
            bad("gap 1;" + sign, 6);
        }
    }

    /** Twenty bytes, the highest of a first: each of the twenty stands in its place, with all its eight bits. */
    private static void bytesOfEachPlace() {
        for (int at = 0; at < 20; at++) {
            for (int sign : new int[] {'?', 0, 127, 128, 255, ' ' + 128, '1' + 128}) {
                int[] words = {0x20202020, 0x20202020, 0x20202020, 0x20202020, 0x20202020};
                int shift = 24 - 8 * (at % 4);
                words[at / 4] = words[at / 4] & ~(255 << shift) | sign << shift;
                SkyBox box = new SkyBox();
                box.feed(words[0], words[1], words[2], words[3], words[4]);
                CHECK.due("byte " + sign + " in " + at, box.read(), 1);
                CHECK.due("its place " + at, box.place(), at);
                box.feed(0x20202020, 0x20202020, 0x20202020, 0x20202020, 0x20202020);
                box.feed(words[0], words[1], words[2], words[3], words[4]);
                CHECK.due("byte " + sign + " in " + (20 + at), box.read(), 1);
                CHECK.due("its place " + (20 + at), box.place(), 20 + at);
            }
        }
    }

    /** The last n bytes of the tape go: none of them is read, not even as what a TOKEN could go on with. */
    private static void bytesThatWentBack() {
        String[] texts = {"out if 1<=", "out if 1!=", "gap 12", "gap if", "gap 1 if"};
        int[] places = {9, 8, 5, 4, 6};
        for (int i = 0; i < texts.length; i++) {
            SkyBox box = new SkyBox();
            Check.feed(box, texts[i]);
            box.back(1);
            CHECK.due("read of " + texts[i] + " less one", box.read(), 1);
            CHECK.due("place of " + texts[i] + " less one", box.place(), places[i]);
        }
        SkyBox box = new SkyBox();
        Check.feed(box, "gap 1;?");
        box.back(1);
        Check.feed(box, "gap 2;");
        CHECK.due("others came in their place", box.read(), 0);
        CHECK.due("both RULES", box.count(2), 2);
        Check.feed(box, "?????");
        box.back(5);
        CHECK.due("all went", box.read(), 0);
        CHECK.due("no RULES", box.count(2), 0);
    }

    /** The tape is empty behind a read: nothing of the text ahead is in the next. */
    private static void bytesOfTheTextAhead() {
        SkyBox box = new SkyBox();
        Check.read(box, "out if 1<=2;out if 1<=2;");
        CHECK.due("read of a part", Check.read(box, "out if 1<"), 1);
        CHECK.due("it ends with the tape", box.place(), 9);
        Check.read(box, "gap 1; gap 2;");
        CHECK.due("read of nothing", box.read(), 0);
        CHECK.due("no RULES", box.count(2), 0);
        CHECK.due("count(5)", box.count(5), 0);
    }

    /** THE TEXT has 2,000 bytes at most. */
    private static void fullTexts() {
        good(" ".repeat(2000));
        good(" ".repeat(1994) + "gap 1;");
        good("gap 1;" + " ".repeat(1994));
        good("gap" + " ".repeat(1995) + "1;");
        for (int at : new int[] {0, 1, 19, 20, 999, 1979, 1980, 1998, 1999}) {
            bad(" ".repeat(at) + "?" + " ".repeat(1999 - at), at);
        }
        SkyBox box = new SkyBox();
        CHECK.due("2,000 bytes", Check.feed(box, " ".repeat(1994) + "gap 1;"), 2000);
        CHECK.due("no more come", box.feed(-1, -1, -1, -1, -1), -1);
        CHECK.due("and nothing came", box.read(), 0);
        CHECK.due("the RULE at the end", box.count(2), 1);
    }

    /** The text's end: its length, which is 2,000 at most. */
    private static void endOfAFullText() {
        bad("gap 1" + " ".repeat(1995), 2000);
        bad("gap 1" + " ".repeat(1994), 1999);
        bad(" ".repeat(1997) + "gap", 2000);
        bad(" ".repeat(1996) + "gap1", 2000);
        bad(" ".repeat(1991) + "out if 1<", 2000);
        bad("out", 3);
        bad("out ", 4);
    }
}
