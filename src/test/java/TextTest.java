/** Promises 4 (read) and 5 (place): TOKENS, grammar, FAULTS and their places. */
public final class TextTest {
    private static final Check CHECK = new Check("TextTest");

    public static void main(String[] args) {
        goodTexts();
        badTokens();
        badGrammar();
        ends();
        tokenRoom();
        ruleRoom();
        bracketRoom();
        leastOfOnePlace();
        faultsChangeNothing();
        CHECK.end();
    }

    private static String shown(String text) {
        int size = text.length();
        return '"' + (size > 80 ? text.substring(0, 20) + " .. " + text.substring(size - 40) : text) + '"';
    }

    private static void good(String text, int rules) {
        SkyBox box = new SkyBox();
        CHECK.due("read of " + shown(text), Check.read(box, text), 0);
        CHECK.due("place of " + shown(text), box.place(), -1);
        CHECK.due("RULES of " + shown(text), box.count(2), rules);
    }

    private static void bad(String text, int fault, int place) {
        SkyBox box = new SkyBox();
        CHECK.due("read of " + shown(text), Check.read(box, text), fault);
        CHECK.due("place of " + shown(text), box.place(), place);
        CHECK.due("RULES of " + shown(text), box.count(2), 0);
    }

    private static void goodTexts() {
        SkyBox box = new SkyBox();
        CHECK.due("place ahead of any read", box.place(), -1);
        CHECK.due("RULES of a new one", box.count(2), 0);
        good("", 0);
        good(" \t\n\r ", 0);
        good("gap 0;", 1);
        good("gap0;spare9999;", 2);
        good("gap 1if 2<3;", 1);
        good("gap((((((1))))));", 1);
        good("gap (1)+(2)*((3));", 1);
        good("out if act==kind;", 1);
        good("out if ahead!=same;out if base<minute;out if wind<=length;out if worth==0007;", 4);
        good("out if 1<2 and 2<3 or 3<4 and(1)==1;", 1);
        good("spare 1+2-3*4 if 1-1==0 or 2*2<=3;", 1);
        good("gap\n1\r;\tspare 2 ; out if 1 == 2;", 3);
        good("gap 1-(2-(3-(4-(5-(6-7)))));", 1);
    }

    private static void badTokens() {
        bad("gap 12345;", 1, 4);
        bad("gap 00001;", 1, 4);
        bad("gap 1?", 1, 5);
        bad("gap =", 1, 4);
        bad("out if 1 = 2;", 1, 9);
        bad("out if 1 === 2;", 1, 11);
        bad("out if 1 <== 2;", 1, 11);
        bad("out if 1 !== 2;", 1, 11);
        bad("out if 1 ! = 2;", 1, 9);
        bad("out if 1 = = 2;", 1, 9);
        bad("out if 1 < = 2;", 1, 11);
        bad("out if 1 > 2;", 1, 9);
        bad("out if 1 => 2;", 1, 9);
        bad("out if 1 <> 2;", 1, 10);
        bad("gap 1 / 2;", 1, 6);
        bad("GAP 1;", 1, 0);
        bad("gaP 1;", 1, 0);
        bad("gapp 1;", 1, 0);
        bad("outif 1==1;", 1, 0);
        bad("gap lengths;", 1, 4);
        bad("gap abcdefgh;", 1, 4);
        bad("gap abcdefghi;", 1, 4);
        bad("gap acts;", 1, 4);
        bad("gap 1 ;" + (char) 0, 1, 7);
        bad("gap 1" + (char) 11 + ";", 1, 5);
        bad("gap 1" + (char) 12 + ";", 1, 5);
        bad("gap 1" + (char) 160 + ";", 1, 5);
        bad("gap " + (char) 225 + ";", 1, 4);
        bad("gap 1;" + (char) 255, 1, 6);
    }

    private static void badGrammar() {
        bad(";", 1, 0);
        bad("gap 1;;", 1, 6);
        bad("if 1==1;", 1, 0);
        bad("1;", 1, 0);
        bad("act;", 1, 0);
        bad("gap;", 1, 3);
        bad("gap if 1==1;", 1, 4);
        bad("gap out;", 1, 4);
        bad("gap 1 2;", 1, 6);
        bad("gap 1 act;", 1, 6);
        bad("gap 1 (2);", 1, 6);
        bad("gap 1);", 1, 5);
        bad("gap (1;", 1, 6);
        bad("gap (1 if 1==1;", 1, 7);
        bad("gap ();", 1, 5);
        bad("gap -1;", 1, 4);
        bad("gap 1+-1;", 1, 6);
        bad("gap 1+;", 1, 6);
        bad("gap *1;", 1, 4);
        bad("gap 1==1;", 1, 5);
        bad("gap 1 and 2;", 1, 6);
        bad("gap 1 if;", 1, 8);
        bad("gap 1 if 1;", 1, 10);
        bad("gap 1 if 1==;", 1, 12);
        bad("gap 1 if 1==1==1;", 1, 13);
        bad("gap 1 if 1==1 if 1==1;", 1, 14);
        bad("gap 1 if 1==1 gap 2;", 1, 14);
        bad("gap 1 if (1==1);", 1, 11);
        bad("gap 1 if 1 and 1==1;", 1, 11);
        bad("gap 1 if 1==1 and;", 1, 17);
        bad("gap 1 if 1==1 or or 1==1;", 1, 17);
        bad("gap 1 if and 1==1;", 1, 9);
        bad("out 1;", 1, 4);
        bad("out;", 1, 3);
        bad("out if;", 1, 6);
        bad("out if 1;", 1, 8);
        bad("out if 1==(2<3);", 1, 12);
        bad("out if 1==1);", 1, 11);
        bad("gap 1; spare 2; out 1==1;", 1, 20);
    }

    private static void ends() {
        bad("gap", 1, 3);
        bad("gap ", 1, 4);
        bad("gap 1", 1, 5);
        bad("gap 1  \n", 1, 8);
        bad("gap (1", 1, 6);
        bad("out", 1, 3);
        bad("out if", 1, 6);
        bad("out if 1<", 1, 9);
        bad("out if 1<2", 1, 10);
        bad("out if 1<2 or", 1, 13);
        bad("gap 1 if 1 !", 1, 11);
        bad("out if 1==12345", 1, 10);
    }

    private static String repeat(String part, int times) {
        return part.repeat(times);
    }

    private static void tokenRoom() {
        // 'gap' '1' and 199 pairs, with ';' 401 TOKENS
        bad("gap 1" + repeat("+1", 199) + ";", 2, 5 + 398);
        // 'gap' '(' '1' ')' and 198 pairs: 400 TOKENS, and the end stands where a 401st would
        bad("gap (1)" + repeat("+1", 198), 1, 7 + 396);
        bad("gap (1)" + repeat("+1", 198) + " ", 1, 7 + 397);
        good("gap (1)" + repeat("+1", 197) + ";", 1);
        good("gap (1)" + repeat("+1", 197) + " ; ", 1);
        // 399 TOKENS; 'spare' is the 400th
        bad("gap (1)" + repeat("+1", 197) + "; spare 2;", 2, 7 + 394 + 8);
        bad("gap (1)" + repeat("+1", 197) + "; spare", 1, 7 + 394 + 7);
        good("gap (1)" + repeat("+1", 196) + ";spare 2;", 2);
        bad("gap (1)" + repeat("+1", 196) + ";spare 2; out", 2, 7 + 392 + 10);
    }

    private static void ruleRoom() {
        good(repeat("gap 1;", 16), 16);
        bad(repeat("gap 1;", 16) + " gap 1;", 2, 97);
        bad(repeat("gap 1;", 16) + "out", 2, 96);
        bad(repeat("gap 1;", 16) + "spare", 2, 96);
        bad(repeat("out if 1==1;", 16) + "out if", 2, 192);
        good(repeat("gap 1;", 16) + "   ", 16);
    }

    private static void bracketRoom() {
        good("gap ((((((1))))));", 1);
        good("gap ((((((1)))))) + ((((((1))))));", 1);
        good("out if ((((((1)))))) == ((((((1))))));", 1);
        bad("gap (((((((1)))))));", 2, 10);
        bad("gap ((((((1+(2)))))));", 2, 12);
        good("gap (((((1+(2))))));", 1);
        bad("gap (((((((", 2, 10);
        bad("out if 1 == 1*(2*(3*(4*(5*(6*(7*(8)))))));", 2, 32);
    }

    private static void leastOfOnePlace() {
        bad(repeat("gap 1;", 16) + "if", 1, 96);
        bad(repeat("gap 1;", 16) + "1", 1, 96);
        bad(repeat("gap 1;", 16) + "?", 1, 96);
        bad("gap ((((((1(", 1, 11);
        bad("gap 1" + repeat("+1", 199) + " 1", 1, 404);
        bad("gap 1" + repeat("+1", 199) + ")", 1, 403);
        bad("gap 1" + repeat("+1", 199) + "foo", 1, 403);
        bad("gap 1" + repeat("+1", 199) + "?", 1, 403);
        bad("gap 1" + repeat("+1", 199) + "*", 2, 403);
        bad("gap 1? (((((((", 1, 5);
    }

    private static void faultsChangeNothing() {
        SkyBox box = new SkyBox();
        CHECK.due("read of two", Check.read(box, "gap 1;spare 2;"), 0);
        CHECK.due("read of a fault", Check.read(box, "gap 1;gap 2;gap 3;?"), 1);
        CHECK.due("its place", box.place(), 18);
        CHECK.due("the two stay", box.count(2), 2);
        CHECK.due("feed changes no place", Check.feed(box, "gap 3;"), 6);
        CHECK.due("the place stays", box.place(), 18);
        CHECK.due("read of one", box.read(), 0);
        CHECK.due("place without a fault", box.place(), -1);
        CHECK.due("one in place of two", box.count(2), 1);
        CHECK.due("read of an empty tape", box.read(), 0);
        CHECK.due("no RULES then", box.count(2), 0);
    }
}
