import java.lang.reflect.InvocationTargetException;
import java.lang.reflect.Method;
import java.util.ArrayList;
import java.util.Arrays;
import java.util.List;
import java.util.function.Consumer;

/**
 * Two objects with one past. A call that is refused goes to one of them alone, and all that both
 * are asked later must be answered alike: then nothing has happened. The later calls are 310 at
 * most, so a past may have 200 of them: what an object answers behind its 512th call is free.
 */
final class Twin {
    private final Check check;
    private final String name;
    private final Consumer<SkyBox> past;

    Twin(Check check, String name, Consumer<SkyBox> past) {
        this.check = check;
        this.name = name;
        this.past = past;
    }

    private SkyBox made() {
        SkyBox box = new SkyBox();
        past.accept(box);
        return box;
    }

    /** A call by its name; a boolean one answers 1 or 0, and figure's last argument is 1 or 0. */
    static int call(SkyBox box, String method, int... args) {
        for (Method each : SkyBox.class.getMethods()) {
            if (each.getName().equals(method) && each.getParameterCount() == args.length) {
                return answer(box, each, args);
            }
        }
        throw new IllegalArgumentException(method);
    }

    private static int answer(SkyBox box, Method method, int[] args) {
        Object[] given = new Object[args.length];
        for (int i = 0; i < args.length; i++) {
            boolean yesOrNo = method.getParameterTypes()[i] == boolean.class;
            given[i] = yesOrNo ? (Object) (args[i] != 0) : (Object) args[i];
        }
        try {
            Object got = method.invoke(box, given);
            return got instanceof Boolean ? ((Boolean) got ? 1 : 0) : (Integer) got;
        } catch (IllegalAccessException | InvocationTargetException e) {
            throw new IllegalStateException(method + " of " + Arrays.toString(args), e);
        }
    }

    private static boolean saysYesOrNo(String method) {
        return List.of("falls", "cell", "ground").contains(method);
    }

    private String shown(String method, int[] args) {
        return name + ": " + method + Arrays.toString(args);
    }

    /** The call is refused with NONE, or with false, and nothing happens. */
    void refused(String method, int... args) {
        SkyBox touched = made();
        int due = saysYesOrNo(method) ? 0 : SkyBox.NONE;
        check.due(shown(method, args), call(touched, method, args), due);
        List<String> got = new Later(touched).answers();
        List<String> want = new Later(made()).answers();
        check.due(shown(method, args) + ": later calls", got.size(), want.size());
        for (int i = 0; i < got.size() && i < want.size(); i++) {
            boolean alike = got.get(i).equals(want.get(i));
            check.due(shown(method, args) + ", later " + got.get(i) + " for " + want.get(i), alike, true);
        }
    }

    void taken(String method, int... args) {
        int got = call(made(), method, args);
        boolean taken = saysYesOrNo(method) ? got == 1 : got >= 0;
        check.due(shown(method, args) + " is taken", taken, true);
    }

    /** One argument of a call that is good else: taken from least to most, refused beyond, on both sides. */
    void bounds(String method, int index, int least, int most, int... good) {
        for (int value : new int[] {least, most}) {
            taken(method, with(good, index, value));
        }
        refusedBeyond(method, index, least, most, good);
    }

    void refusedBeyond(String method, int index, int least, int most, int... good) {
        for (int value : new int[] {least - 1, most + 1, Integer.MIN_VALUE, Integer.MAX_VALUE}) {
            refused(method, with(good, index, value));
        }
    }

    private static int[] with(int[] good, int index, int value) {
        int[] args = good.clone();
        args[index] = value;
        return args;
    }

    /** What an object answers to calls of all kinds: first to what it has, then to what comes behind. */
    private static final class Later {
        private final SkyBox box;
        private final List<String> answers = new ArrayList<>();

        Later(SkyBox box) {
            this.box = box;
        }

        private int ask(String method, int... args) {
            int answer = call(box, method, args);
            answers.add(method + Arrays.toString(args) + " = " + answer);
            return answer;
        }

        List<String> answers() {
            for (int what = 0; what < 8; what++) {
                ask("count", what);
            }
            ask("place");
            askPlanned();
            for (int act = 0; act < 6; act++) {
                askOf(act);
            }
            for (int minute : new int[] {0, 1, 59, 60, 120, 239}) {
                ask("baseIn", minute, box.count(1));
            }
            ask("can", 0, 1, 2, -1, box.count(1));
            goOn();
            return answers;
        }

        private void askPlanned() {
            for (int i = 0; i < 6; i++) {
                int act = ask("order", i);
                for (int what = 0; what < 5 && act >= 0; what++) {
                    int told = ask("told", act, what);
                    if (what == 0 || what == 3) {
                        ask("runway", told);
                    }
                }
            }
        }

        private void askOf(int act) {
            for (int figure = 0; figure < 6; figure++) {
                ask("refused", act, figure);
            }
            for (int base : new int[] {1, 4, 7, 9}) {
                ask("length", act, base);
            }
            ask("out", act, 39, box.count(1));
            ask("can", act, -1, -1, -1, box.count(1));
        }

        private void goOn() {
            ask("feed", 0, 0, 0, 0, 0);
            ask("read");
            ask("place");
            ask("count", 2);
            ask("mend", box.count(1));
            askPlanned();
            ask("cell", 3, 60);
            ask("refused", 0, 0);
            ask("birds", 0, 17);
            ask("act", 1, 1, 7, 1, 1, 90);
            for (int act = 0; act < 6; act++) {
                ask("figure", act, 1, 0, 0, 0);
            }
            ask("plan", box.count(1));
            askPlanned();
        }
    }
}
