import java.util.List;

/** Part II: the grammar, every TOKEN behind every beginning of a text, and the FAULTS with their places. */
public final class FaultTest {
    private static final Check CHECK = new Check("FaultTest");
    private static final String RULES = "out gap spare";
    private static final String UNITS = "7 act kind ahead same base minute wind length worth (";
    private static final String ON = "+ - *";
    private static final String RELATIONS = "== != < <=";
    private static final List<String> TOKENS = List.of("out", "gap", "spare", "if", "or", "and", "act", "kind", "ahead",
            "same", "base", "minute", "wind", "length", "worth", "7", ";", "+", "-", "*", "==", "!=", "<", "<=", "(", ")",
            "foo", "12345", "abcdefghi", "=", "!", "?");

    public static void main(String[] args) {
        everyTokenBehindEveryBeginning();
        firstByItsPlace();
        fourHundredTokens();
        sixteenRules();
        sixBrackets();
        roomAgainstSyntax();
        roomAtThe401st();
        faultsChangeNothing();
        placeOfTheLatest();
        CHECK.end();
    }

    private static String shown(String text) {
        int size = text.length();
        return '"' + (size > 90 ? text.substring(0, 20) + " .. " + text.substring(size - 50) : text) + '"';
    }

    private static void due(String text, int fault, int place) {
        SkyBox box = new SkyBox();
        CHECK.due("read of " + shown(text), Check.read(box, text), fault);
        CHECK.due("place of " + shown(text), box.place(), place);
    }

    private static void good(String text, int rules) {
        SkyBox box = new SkyBox();
        CHECK.due("read of " + shown(text), Check.read(box, text), 0);
        CHECK.due("place of " + shown(text), box.place(), -1);
        CHECK.due("RULES of " + shown(text), box.count(2), rules);
    }

    /** SYNTAX: a TOKEN, or what is none, with which no text goes on. */
    private static void everyTokenBehindEveryBeginning() {
        goesOn("", RULES, true);
        goesOn("gap 1;", RULES, true);
        goesOn("spare 1 if 1==1;", RULES, true);
        goesOn("out if 1==1;", RULES, true);
        goesOn("out", "if", false);
        for (String head : new String[] {"gap", "spare"}) {
            goesOn(head, UNITS, false);
            goesOn(head + " 1", ON + " if ;", false);
            goesOn(head + " act", ON + " if ;", false);
            goesOn(head + " 1+act*2", ON + " if ;", false);
            goesOn(head + " (", UNITS, false);
            goesOn(head + " (1", ON + " )", false);
            goesOn(head + " ((1)", ON + " )", false);
            goesOn(head + " (1)", ON + " if ;", false);
            goesOn(head + " 1 if", UNITS, false);
        }
        for (String head : new String[] {"gap 1 if", "spare (1) if", "out if", "out if 1<2 or", "gap 2 if 1<2 and"}) {
            goesOn(head, UNITS, false);
            goesOn(head + " 1", ON + " " + RELATIONS, false);
            goesOn(head + " (1", ON + " )", false);
            goesOn(head + " (1)", ON + " " + RELATIONS, false);
            goesOn(head + " 1-worth", ON + " " + RELATIONS, false);
            for (String relation : RELATIONS.split(" ")) {
                goesOn(head + " 1" + relation, UNITS, false);
                goesOn(head + " 1" + relation + "2", ON + " or and ;", false);
                goesOn(head + " 1" + relation + "(2", ON + " )", false);
                goesOn(head + " 1" + relation + "(2)", ON + " or and ;", false);
                goesOn(head + " 1" + relation + "wind*3", ON + " or and ;", false);
            }
        }
        for (String on : ON.split(" ")) {
            goesOn("gap 1" + on, UNITS, false);
            goesOn("gap (1" + on, UNITS, false);
            goesOn("out if 1" + on, UNITS, false);
            goesOn("out if 1<2" + on, UNITS, false);
        }
    }

    /** The TOKENS that go on behind a beginning; the others are FAULTS in their places. */
    private static void goesOn(String beginning, String tokens, boolean mayEnd) {
        due(beginning, mayEnd ? 0 : 1, mayEnd ? -1 : beginning.length());
        List<String> good = List.of(tokens.split(" "));
        for (String token : TOKENS) {
            for (String blanks : new String[] {" ", "\n\t "}) {
                String text = beginning + blanks + token;
                if (!good.contains(token)) {
                    due(text, 1, beginning.length() + blanks.length());
                } else if (token.equals(";")) {
                    due(text, 0, -1);
                } else {
                    due(text, 1, text.length());
                }
            }
        }
    }

    /** FAULTS, the first by its place. */
    private static void firstByItsPlace() {
        due("gap 1 2 ; out ; ?", 1, 6);
        due("gap ? (((((((1", 1, 4);
        due("gap (((((((1 ?", 2, 10);
        due("gap 1;".repeat(16) + "gap ?", 2, 96);
        due("gap ?;" + "gap 1;".repeat(16), 1, 4);
        due("gap 1;".repeat(15) + "gap ?;" + "gap 1;", 1, 94);
        due("gap 1" + "+1".repeat(200) + "?", 2, 403);
        due("gap 1" + "+1".repeat(198) + "?" + "+1".repeat(10), 1, 401);
        due("out if 1==(((((((1))))))) and ?", 2, 16);
    }

    /** ROOM: a 401st TOKEN. */
    private static void fourHundredTokens() {
        // gap ( 1 ) and 196 pairs and ; are 397
        String most = "gap (1)" + "+1".repeat(196) + ";";
        int size = most.length();
        good(most + "gap 1;", 2);
        good(most + "gap 1;  \n", 2);
        due(most + "gap 1;gap", 2, size + 6);
        due(most + "gap 1; \n gap 1;", 2, size + 9);
        due(most + "gap 1+1;", 2, size + 6);
        due(most + "gap 10+1;", 2, size + 7);
        // the 400th, and the text ends there
        due(most + "gap 1+", 1, size + 6);
        due(most + "gap 1+ ", 1, size + 7);
        // 396, so the last of 'gap 1+1' is the 400th
        String one = "out if 1<1" + "+1".repeat(195) + ";";
        due(one + "gap 1+1", 1, one.length() + 7);
        due(one + "gap 1+1;", 2, one.length() + 7);
        // 15 RULES of 3 TOKENS and one of 355
        String sixteen = "gap 1;".repeat(15) + "gap 1" + "+1".repeat(176);
        good(sixteen + ";", 16);
        due(sixteen + "+1;", 2, sixteen.length() + 1);
        due(sixteen + ";gap 1;", 2, sixteen.length() + 1);
        // in all of 2,000 bytes
        good(" ".repeat(2000 - size - 6) + most + "gap 1;", 2);
        due(" ".repeat(2000 - size - 7) + most + "gap 1+1", 2, 1999);
    }

    /** ROOM: a 17th RULE (at its first TOKEN). */
    private static void sixteenRules() {
        for (String rule : new String[] {"gap 1;", "spare act if 1<2;", "out if 1==2 or 2==3;"}) {
            String most = rule.repeat(16);
            good(rule.repeat(15), 15);
            good(most, 16);
            good(most + " \r\n\t ", 16);
            for (String first : new String[] {"gap", "spare", "out"}) {
                due(most + first, 2, most.length());
                due(most + " \n" + first + " 1;", 2, most.length() + 2);
                due(most + first + "?", 2, most.length());
            }
        }
        good("gap 1;spare 1;out if 1==2;gap 2;".repeat(4), 16);
    }

    /** ROOM: a 7th ( within one another (at it). */
    private static void sixBrackets() {
        for (String head : new String[] {"gap ", "spare 2*", "out if ", "out if 1==", "gap 1 if 1<2 and 3-", "out if 1<2 or "}) {
            String end = head.startsWith("out if ") && !head.endsWith("==") || head.contains(" and ") ? "<=9;" : ";";
            good(head + "((((((1))))))" + end, 1);
            good(head + "((((((1))))))+((((((1))))))" + end, 1);
            good(head + "((((((1)+(2)))))*(((((3))))))" + end, 1);
            good(head + "(1+(2+(3+(4+(5+(6))))))" + end, 1);
            int size = head.length();
            due(head + "(((((((1)))))))" + end, 2, size + 6);
            due(head + "(((((((", 2, size + 6);
            due(head + "(((((( (1", 2, size + 7);
            due(head + "((((((1)+((2", 2, size + 10);
            due(head + "((((((1)))))*(((((((2", 2, size + 18);
            due(head + "(1+(2+(3+(4+(5+(6+(7", 2, size + 18);
            due(head + "((((((", 1, size + 6);
        }
        good("out if ((((((1))))))<((((((2)))))) and ((((((1))))))<((((((2))))));gap ((((((1))))));", 2);
    }

    /** Of one place the least: what no text goes on with is SYNTAX, also where there is no room. */
    private static void roomAgainstSyntax() {
        String rules = "gap 1;".repeat(16);
        String tokens = "gap (1)" + "+1".repeat(198);
        for (String token : TOKENS) {
            boolean rule = RULES.contains(token);
            due(rules + token, rule ? 2 : 1, 96);
            // 400 TOKENS with a bracket closed last: operators, 'if' and ; could follow
            boolean on = List.of("+", "-", "*", "if", ";").contains(token);
            due(tokens + " " + token, on ? 2 : 1, tokens.length() + 1);
            boolean open = token.equals("(");
            boolean unit = List.of(UNITS.split(" ")).contains(token);
            due("gap (((((( " + token, open ? 2 : 1, unit && !open ? 11 + token.length() : 11);
            due("gap ((((((1 " + token, 1, ")+-*".contains(token) ? 12 + token.length() : 12);
        }
        due(rules, 0, -1);
        due(tokens, 1, tokens.length());
    }

    /** A TOKEN that has no room in more than one way is still one FAULT in one place. */
    private static void roomAtThe401st() {
        String sixteen = "gap 1;".repeat(15) + "gap 1" + "+1".repeat(176) + ";";
        due(sixteen + "out", 2, sixteen.length());
        String brackets = "gap ((((((1" + "+1".repeat(195) + "+";
        // gap, six brackets, 1, 195 pairs, + are 399; 7 is the 400th, or a 7th ( is
        due(brackets + "(", 2, brackets.length());
        due(brackets + "7", 1, brackets.length() + 1);
        due(brackets + "7)", 2, brackets.length() + 1);
        String more = "gap 1*((((((1" + "+1".repeat(194) + "+";
        due(more + "7", 1, more.length() + 1);
        due(more + "7+", 2, more.length() + 1);
    }

    /** A text with a FAULT changes nothing; else it is in place of the one ahead. */
    private static void faultsChangeNothing() {
        String[] broken = {"?", "gap", "gap 30;?", "out if 1==1;out if", "spare 30;spare 30;;", "gap 1;".repeat(17),
            "gap (((((((1)))))));", "out if 1==1;gap 1" + "+1".repeat(200) + ";", "spare 9999;12345"};
        for (String text : broken) {
            SkyBox box = ruled();
            Check.read(box, text);
            String name = "behind " + shown(text) + ": ";
            CHECK.due(name + "a FAULT", box.place() >= 0, true);
            CHECK.due(name + "RULES", box.count(2), 3);
            CHECK.due(name + "out", box.out(0, 9, 0), 2);
            CHECK.due(name + "no out", box.out(0, 10, 0), -1);
            CHECK.due(name + "what is PLANNED stays", box.told(1, 1), 19);
            CHECK.due(name + "plan", box.plan(0), 3);
            CHECK.due(name + "the first", box.told(0, 1), 10);
            CHECK.due(name + "gap", box.told(1, 1), 19);
            CHECK.due(name + "spare", box.can(2, -1, -1, -1, 0), -2);
            CHECK.due(name + "the tape is empty", box.count(5), 0);
        }
        for (String text : new String[] {"", "   ", "gap 0;", "out if 1==2;"}) {
            SkyBox box = ruled();
            Check.read(box, text);
            CHECK.due("no RULE of the one ahead is left: out", box.out(0, 9, 0), -1);
            CHECK.due("what is PLANNED stays", box.told(1, 1), 19);
            CHECK.due("spare", box.can(2, -1, -1, -1, 0), 4);
            CHECK.due("plan", box.plan(0), 7);
            CHECK.due("gap", box.told(box.order(1), 1), 6);
            CHECK.due("RULES", box.count(2), text.trim().isEmpty() ? 0 : 1);
        }
    }

    /** Three ACTS of 5 MINUTES; the third has no FUEL to spare. All three RULES show. */
    private static SkyBox ruled() {
        SkyBox box = new SkyBox();
        for (int i = 0; i < 3; i++) {
            box.act(0, 0, 1 << i, 1, 1, i == 2 ? 10 : 60);
            box.figure(i, 5, 0, 0, false);
        }
        Check.read(box, "gap 4;spare 4;out if minute<10;");
        box.plan(0);
        return box;
    }

    /** The byte of the latest read()'s FAULT; NONE without. */
    private static void placeOfTheLatest() {
        SkyBox box = new SkyBox();
        CHECK.due("ahead of all", box.place(), -1);
        Check.feed(box, "gap ?");
        CHECK.due("fed, not read", box.place(), -1);
        box.read();
        CHECK.due("read", box.place(), 4);
        CHECK.due("asked again", box.place(), 4);
        Check.feed(box, "?");
        CHECK.due("fed again", box.place(), 4);
        box.back(1);
        CHECK.due("went back", box.place(), 4);
        Check.read(box, "??");
        CHECK.due("a FAULT at 0", box.place(), 0);
        box.read();
        CHECK.due("an empty text", box.place(), -1);
        Check.read(box, "gap 1; (");
        CHECK.due("a FAULT again", box.place(), 7);
        Check.read(box, "gap 1;");
        CHECK.due("a good one", box.place(), -1);
    }
}
