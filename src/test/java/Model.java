import java.util.ArrayList;
import java.util.Arrays;
import java.util.HashMap;
import java.util.List;
import java.util.Map;

/**
 * The document's promises said once more in another way: every list is kept as it was told,
 * nothing is worked out ahead, every ORDER of every set is tried. RandomTest holds the class
 * against it.
 */
final class Model {
    private record Figure(int minutes, int speed, int height, boolean high) { }

    private record Act(int kind, int pilot, int worth, int climb, int home, int fuel, List<Figure> figures) { }

    private record Fact(char kind, int a, int b) { }

    private record Flight(int act, int takeOff, int begin, int end, int landing) { }

    private record Token(String text, int place) { }

    private record Rule(String kind, Node amount, Node condition) { }

    private interface Node {
        int value(Map<String, Integer> vars);
    }

    private static final class Fault extends RuntimeException {
        private static final long serialVersionUID = 1L;
        final int number;
        final int place;

        Fault(int number, int place) {
            this.number = number;
            this.place = place;
        }
    }

    private final List<Integer> tape = new ArrayList<>();
    private final List<Act> acts = new ArrayList<>();
    private final List<Fact> facts = new ArrayList<>();
    private List<Rule> rules = List.of();
    private int[] falls = null;
    private int wind = 0;
    private int line = 100;
    private int place = -1;
    private List<Flight> planned = null;

    // ---- the tape and the text

    int feed(int... words) {
        if (tape.size() > 1980) {
            return -1;
        }
        for (int word : words) {
            tape.addAll(List.of(word >>> 24, word >>> 16 & 255, word >>> 8 & 255, word & 255));
        }
        return tape.size();
    }

    int back(int n) {
        if (n < 0 || n > tape.size()) {
            return -1;
        }
        tape.subList(tape.size() - n, tape.size()).clear();
        return tape.size();
    }

    int read() {
        StringBuilder bytes = new StringBuilder();
        tape.forEach(each -> bytes.append((char) (int) each));
        tape.clear();
        try {
            rules = new Parser(bytes.toString()).text();
            place = -1;
            return 0;
        } catch (Fault fault) {
            place = fault.place;
            return fault.number;
        }
    }

    int place() {
        return place;
    }

    /** A parser by recursive descent, which throws the first FAULT. */
    private static final class Parser {
        private static final List<String> VARS =
                List.of("act", "kind", "ahead", "same", "base", "minute", "wind", "length", "worth");
        private final List<Token> tokens = new ArrayList<>();
        private int next = 0;
        private int depth = 0;

        Parser(String text) {
            int at = 0;
            while (at < text.length()) {
                int end = at + 1;
                if (" \t\r\n".indexOf(text.charAt(at)) < 0) {
                    end = endOf(text, at);
                    tokens.add(new Token(text.substring(at, end), at));
                }
                at = end;
            }
            tokens.add(new Token("", text.length()));
        }

        private static int endOf(String text, int at) {
            for (String set : List.of("[a-z]", "[0-9]")) {
                int end = at;
                while (end < text.length() && text.substring(end, end + 1).matches(set)) {
                    end++;
                }
                if (end > at) {
                    return end;
                }
            }
            for (String sign : List.of("==", "!=", "<=")) {
                if (text.startsWith(sign, at)) {
                    return at + 2;
                }
            }
            return at + 1;
        }

        private boolean sees(String... wanted) {
            return Arrays.asList(wanted).contains(tokens.get(next).text);
        }

        private String take() {
            if (next == 400) {
                throw new Fault(2, tokens.get(next).place);
            }
            next++;
            return tokens.get(next - 1).text;
        }

        private void takeOnly(String wanted) {
            if (!sees(wanted)) {
                throw syntax();
            }
            take();
        }

        private Fault syntax() {
            return new Fault(1, tokens.get(next).place);
        }

        List<Rule> text() {
            List<Rule> found = new ArrayList<>();
            while (!sees("")) {
                if (!sees("out", "gap", "spare")) {
                    throw syntax();
                }
                if (found.size() == 16) {
                    throw new Fault(2, tokens.get(next).place);
                }
                found.add(rule(take()));
            }
            return found;
        }

        private Rule rule(String kind) {
            Node amount = kind.equals("out") ? null : sum();
            Node condition = null;
            if (kind.equals("out") || sees("if")) {
                takeOnly("if");
                condition = any();
            }
            takeOnly(";");
            return new Rule(kind, amount, condition);
        }

        private Node any() {
            Node left = all();
            while (sees("or")) {
                take();
                Node one = left;
                Node other = all();
                left = vars -> one.value(vars) != 0 || other.value(vars) != 0 ? 1 : 0;
            }
            return left;
        }

        private Node all() {
            Node left = relation();
            while (sees("and")) {
                take();
                Node one = left;
                Node other = relation();
                left = vars -> one.value(vars) != 0 && other.value(vars) != 0 ? 1 : 0;
            }
            return left;
        }

        private Node relation() {
            Node left = sum();
            if (!sees("==", "!=", "<", "<=")) {
                throw syntax();
            }
            String sign = take();
            Node right = sum();
            return vars -> {
                int order = Integer.compare(left.value(vars), right.value(vars));
                boolean holds = sign.equals("==") && order == 0 || sign.equals("!=") && order != 0
                        || sign.equals("<") && order < 0 || sign.equals("<=") && order <= 0;
                return holds ? 1 : 0;
            };
        }

        private Node sum() {
            Node left = product();
            while (sees("+", "-")) {
                int factor = take().equals("+") ? 1 : -1;
                Node one = left;
                Node other = product();
                left = vars -> one.value(vars) + factor * other.value(vars);
            }
            return left;
        }

        private Node product() {
            Node left = unit();
            while (sees("*")) {
                take();
                Node one = left;
                Node other = unit();
                left = vars -> one.value(vars) * other.value(vars);
            }
            return left;
        }

        private Node unit() {
            String seen = tokens.get(next).text;
            if (seen.matches("[0-9]{1,4}")) {
                int number = Integer.parseInt(take());
                return vars -> number;
            }
            if (VARS.contains(seen)) {
                String name = take();
                return vars -> vars.get(name);
            }
            if (!seen.equals("(")) {
                throw syntax();
            }
            if (depth == 6) {
                throw new Fault(2, tokens.get(next).place);
            }
            take();
            depth++;
            Node inner = sum();
            takeOnly(")");
            depth--;
            return inner;
        }
    }

    // ---- what is told

    private static boolean in(int value, int least, int most) {
        return least <= value && value <= most;
    }

    int act(int kind, int pilot, int worth, int climb, int home, int fuel) {
        boolean good = in(kind, 0, 3) && in(pilot, 0, 7) && in(worth, 0, 100) && in(climb, 1, 20)
                && in(home, 1, 20) && in(fuel, 1, 120) && acts.size() < 6;
        if (!good) {
            return -1;
        }
        acts.add(new Act(kind, pilot, worth, climb, home, fuel, new ArrayList<>()));
        return acts.size() - 1;
    }

    int figure(int act, int minutes, int speed, int height, boolean high) {
        if (!in(act, 0, acts.size() - 1) || !in(minutes, 1, 9) || !in(speed, 0, 20) || !in(height, 0, 9)) {
            return -1;
        }
        List<Figure> figures = acts.get(act).figures;
        if (figures.size() == 6) {
            return -1;
        }
        figures.add(new Figure(minutes, speed, height, high));
        return figures.size() - 1;
    }

    boolean falls(int n) {
        if (n != 10 && n != -1) {
            return false;
        }
        falls = n == 10 ? new int[10] : null;
        return true;
    }

    boolean cell(int i, int v) {
        if (falls == null || !in(i, 0, 9) || !in(v, 0, 99)) {
            return false;
        }
        falls[i] = v;
        return true;
    }

    boolean ground(int newWind, int newLine) {
        if (!in(newWind, 0, 50) || !in(newLine, 0, 300)) {
            return false;
        }
        wind = newWind;
        line = newLine;
        return true;
    }

    private int tell(boolean good, char kind, int a, int b) {
        if (!good || facts.size() == 100) {
            return -1;
        }
        facts.add(new Fact(kind, a, b));
        return facts.size() - 1;
    }

    int base(int minute, int v) {
        return tell(in(minute, 0, 239) && in(v, 0, 9), 'c', minute, v);
    }

    int birds(int a, int b) {
        return tell(a >= 0 && a < b && b <= 240, 'b', a, b);
    }

    int ready(int act, int minute) {
        return tell(in(act, 0, acts.size() - 1) && in(minute, 0, 239), 'r', act, minute);
    }

    int away(int a, int b) {
        return tell(a >= 0 && a < b && b <= 240, 'a', a, b);
    }

    // ---- what follows from it

    private boolean isRefused(Figure figure) {
        int cell = falls == null ? 20 : falls[figure.height];
        return figure.speed * cell / 10 + wind >= line;
    }

    int refused(int act, int figure) {
        if (!in(act, 0, acts.size() - 1) || !in(figure, 0, acts.get(act).figures.size() - 1)) {
            return -1;
        }
        return isRefused(acts.get(act).figures.get(figure)) ? 1 : 0;
    }

    int length(int act, int base) {
        if (!in(act, 0, acts.size() - 1) || !in(base, 0, 9)) {
            return -1;
        }
        List<Figure> all = acts.get(act).figures.stream().filter(each -> !isRefused(each)).toList();
        List<Figure> flat = all.stream().filter(each -> !each.high).toList();
        for (List<Figure> flown : List.of(all, flat)) {
            if (flown.stream().allMatch(each -> each.height < base)) {
                return flown.stream().mapToInt(Figure::minutes).sum();
            }
        }
        return 0;
    }

    int baseIn(int minute, int n) {
        if (!in(minute, 0, 239) || !in(n, 0, facts.size())) {
            return -1;
        }
        Fact latest = null;
        for (Fact fact : facts.subList(0, n)) {
            if (fact.kind == 'c' && fact.a <= minute && (latest == null || fact.a >= latest.a)) {
                latest = fact;
            }
        }
        return latest == null ? 9 : latest.b;
    }

    private int readyOf(int act, int n) {
        int ready = 0;
        for (Fact fact : facts.subList(0, n)) {
            if (fact.kind == 'r' && fact.a == act) {
                ready = fact.b;
            }
        }
        return ready;
    }

    private boolean isOpen(int from, int to, int n) {
        boolean open = to <= 240;
        for (Fact fact : facts.subList(0, n)) {
            if (fact.kind == 'b' || fact.kind == 'a') {
                open &= to <= fact.a || fact.b <= from;
            }
        }
        return open;
    }

    private Map<String, Integer> vars(int number, int minute, int length, List<Flight> ahead, int n) {
        Act act = acts.get(number);
        Map<String, Integer> vars = new HashMap<>();
        vars.put("act", number);
        vars.put("kind", act.kind);
        vars.put("ahead", ahead.isEmpty() ? -1 : acts.get(ahead.get(ahead.size() - 1).act).kind);
        vars.put("same", (int) ahead.stream().filter(each -> acts.get(each.act).pilot == act.pilot).count());
        vars.put("base", baseIn(minute, n));
        vars.put("minute", minute);
        vars.put("wind", wind);
        vars.put("length", length);
        vars.put("worth", act.worth);
        return vars;
    }

    private int firstRule(String kind, Map<String, Integer> vars) {
        for (int i = 0; i < rules.size(); i++) {
            Rule rule = rules.get(i);
            if (rule.kind.equals(kind) && (rule.condition == null || rule.condition.value(vars) != 0)) {
                return i;
            }
        }
        return -1;
    }

    private int held(String kind, Map<String, Integer> vars) {
        int rule = firstRule(kind, vars);
        return rule < 0 ? 0 : Math.max(0, Math.min(30, rules.get(rule).amount.value(vars)));
    }

    private static boolean isTaken(int minute, List<Flight> ahead) {
        return ahead.stream().anyMatch(each -> each.takeOff == minute || each.landing == minute);
    }

    /** The flight of an ACT that begins in a MINUTE; null: it can't be. */
    private Flight flightFrom(int number, int begin, List<Flight> ahead, int n) {
        Act act = acts.get(number);
        int length = length(number, baseIn(begin, n));
        if (length == 0 || !isOpen(begin, begin + length, n)) {
            return null;
        }
        Map<String, Integer> vars = vars(number, begin, length, ahead, n);
        if (!ahead.isEmpty() && begin < ahead.get(ahead.size() - 1).end + held("gap", vars)) {
            return null;
        }
        if (firstRule("out", vars) >= 0) {
            return null;
        }
        int takeOff = begin - act.climb;
        while (takeOff >= 0 && isTaken(takeOff, ahead)) {
            takeOff--;
        }
        int landing = begin + length + act.home;
        while (landing < 240 && isTaken(landing, ahead)) {
            landing++;
        }
        boolean good = takeOff >= 0 && takeOff >= readyOf(number, n) && landing < 240
                && landing - takeOff <= act.fuel - held("spare", vars);
        return good ? new Flight(number, takeOff, begin, begin + length, landing) : null;
    }

    /** An ACT behind the ones ahead in the first MINUTE in which it can begin; null: it can't be. */
    private Flight fly(int number, List<Flight> ahead, int n) {
        Flight found = null;
        for (int begin = 0; begin < 240 && found == null; begin++) {
            found = flightFrom(number, begin, ahead, n);
        }
        return found;
    }

    private int worthOf(List<Flight> flights) {
        return flights.stream().mapToInt(each -> acts.get(each.act).worth).sum();
    }

    private static int lastLanding(List<Flight> flights) {
        return flights.stream().mapToInt(Flight::landing).max().orElse(-1);
    }

    private static int kept(List<Flight> flights, List<Flight> former) {
        return (int) flights.stream().filter(each -> former.stream()
                .anyMatch(old -> old.act == each.act && old.begin == each.begin)).count();
    }

    private static int compareOrders(List<Flight> one, List<Flight> other) {
        for (int i = 0; i < one.size() && i < other.size(); i++) {
            if (one.get(i).act != other.get(i).act) {
                return Integer.compare(one.get(i).act, other.get(i).act);
            }
        }
        return Integer.compare(one.size(), other.size());
    }

    private boolean isBetter(List<Flight> one, List<Flight> other, List<Flight> former) {
        int order = Integer.compare(worthOf(one), worthOf(other));
        if (order == 0) {
            order = Integer.compare(kept(one, former), kept(other, former));
        }
        if (order == 0) {
            order = Integer.compare(lastLanding(other), lastLanding(one));
        }
        return order == 0 ? compareOrders(one, other) < 0 : order > 0;
    }

    private void collect(List<Flight> flown, int n, List<List<Flight>> all) {
        all.add(new ArrayList<>(flown));
        // from the last on, so that the sequence of the orders is not the one that is due
        for (int number = acts.size() - 1; number >= 0; number--) {
            int each = number;
            boolean isIn = flown.stream().anyMatch(flight -> flight.act == each);
            Flight next = isIn ? null : fly(number, flown, n);
            if (next != null) {
                flown.add(next);
                collect(flown, n, all);
                flown.remove(flown.size() - 1);
            }
        }
    }

    private int best(int n, List<Flight> former) {
        List<List<Flight>> orders = new ArrayList<>();
        collect(new ArrayList<>(), n, orders);
        List<Flight> best = orders.get(0);
        for (List<Flight> order : orders) {
            if (isBetter(order, best, former)) {
                best = order;
            }
        }
        planned = best;
        return worthOf(best);
    }

    int plan(int n) {
        return in(n, 0, facts.size()) ? best(n, List.of()) : -1;
    }

    int mend(int n) {
        return in(n, 0, facts.size()) && planned != null ? best(n, planned) : -1;
    }

    int order(int i) {
        return planned != null && in(i, 0, planned.size() - 1) ? planned.get(i).act : -1;
    }

    int told(int act, int what) {
        if (planned == null) {
            return -1;
        }
        for (Flight each : planned) {
            if (each.act == act && in(what, 0, 4)) {
                return new int[] {each.takeOff, each.begin, each.end, each.landing, each.end - each.begin}[what];
            }
        }
        return -1;
    }

    int out(int act, int minute, int n) {
        if (!in(act, 0, acts.size() - 1) || !in(minute, 0, 239) || !in(n, 0, facts.size())) {
            return -1;
        }
        int length = length(act, baseIn(minute, n));
        return length == 0 ? -1 : firstRule("out", vars(act, minute, length, List.of(), n));
    }

    int can(int a, int b, int c, int d, int n) {
        List<Integer> order = new ArrayList<>(List.of(a, b, c, d));
        while (order.size() > 1 && order.get(order.size() - 1) == -1) {
            order.remove(order.size() - 1);
        }
        boolean good = in(n, 0, facts.size()) && order.stream().allMatch(each -> in(each, 0, acts.size() - 1))
                && order.stream().distinct().count() == order.size();
        if (!good) {
            return -1;
        }
        List<Flight> flown = new ArrayList<>();
        for (int number : order) {
            Flight next = fly(number, flown, n);
            if (next == null) {
                return -2;
            }
            flown.add(next);
        }
        return worthOf(flown);
    }

    int runway(int minute) {
        if (planned != null && in(minute, 0, 239)) {
            for (Flight each : planned) {
                if (each.takeOff == minute || each.landing == minute) {
                    return each.takeOff == minute ? each.act : 100 + each.act;
                }
            }
        }
        return -1;
    }

    int count(int what) {
        int plans = planned == null ? -1 : planned.size();
        int last = planned == null ? -1 : lastLanding(planned);
        int[] counts = {acts.size(), facts.size(), rules.size(), plans, last, tape.size(), wind, line};
        return in(what, 0, 7) ? counts[what] : -1;
    }
}
