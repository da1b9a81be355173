/** Compares answers with what is due, and ends a test with exit code 1 if one was wrong. */
final class Check {
    private final String name;
    private int asked = 0;
    private int wrong = 0;

    Check(String name) {
        this.name = name;
    }

    void due(String call, long got, long want) {
        asked++;
        if (got != want) {
            wrong++;
            System.out.println(name + ": " + call + " answered " + got + ", due is " + want);
        }
    }

    void due(String call, boolean got, boolean want) {
        due(call, got ? 1 : 0, want ? 1 : 0);
    }

    boolean hasFailed() {
        return wrong != 0;
    }

    void end() {
        System.out.println(name + ": " + asked + " answers, " + wrong + " wrong");
        if (wrong != 0) {
            System.exit(1);
        }
    }

    /** Puts a text on the tape, in twenties of bytes and with the blanks behind it taken back. */
    static int feed(SkyBox box, String text) {
        int size = SkyBox.NONE;
        for (int at = 0; at < text.length(); at += 20) {
            size = box.feed(word(text, at), word(text, at + 4), word(text, at + 8),
                    word(text, at + 12), word(text, at + 16));
        }
        int over = (20 - text.length() % 20) % 20;
        return over == 0 || size == SkyBox.NONE ? size : box.back(over);
    }

    static int read(SkyBox box, String text) {
        feed(box, text);
        return box.read();
    }

    static int word(String text, int at) {
        int word = 0;
        for (int i = at; i < at + 4; i++) {
            word = word << 8 | (i < text.length() ? text.charAt(i) & 255 : ' ');
        }
        return word;
    }
}
