/** What the tests share: telling texts, and counting answers that are not as due. */
final class Check {
    private int wrong;
    private int asked;
    private String said = "";

    /** The sentence of DOC.md that the answers behind it hold against the class. */
    void says(String sentence) {
        said = sentence + " | ";
    }

    void due(String call, long got, long want) {
        asked++;
        if (got != want) {
            wrong++;
            System.out.println(said + call + " answered " + got + ", due is " + want);
        }
    }

    /** For a call behind which nothing may have changed. */
    void stays(String call, HalfFair fair, String before) {
        asked++;
        String now = state(fair);
        if (!now.equals(before)) {
            wrong++;
            System.out.println(said + call + " left\n  " + now + "\nwhere there was\n  " + before);
        }
    }

    void due(String call, boolean got, boolean want) {
        due(call, got ? 1 : 0, want ? 1 : 0);
    }

    void finish() {
        System.out.println(asked + " answers, " + wrong + " not as due");
        if (wrong != 0) {
            System.exit(1);
        }
    }

    /** Puts a text of at most 400 bytes on the TAPE in place of what it had. */
    static void tape(HalfFair fair, String text) {
        fair.end(0);
        for (int at = 0; at < text.length(); at += 20) {
            int[] five = fiveOf(text, at);
            fair.feed(five[0], five[1], five[2], five[3], five[4]);
        }
        fair.end(text.length());
    }

    static int[] fiveOf(String text, int at) {
        int[] five = new int[5];
        for (int i = 0; i < 20; i++) {
            int sign = at + i < text.length() ? text.charAt(at + i) & 255 : 0;
            five[i / 4] = five[i / 4] << 8 | sign;
        }
        return five;
    }

    static int fair(HalfFair fair, String text) {
        tape(fair, text);
        return fair.fair();
    }

    static int rule(HalfFair fair, String text) {
        tape(fair, text);
        return fair.rule();
    }

    static HalfFair open(String text) {
        HalfFair fair = new HalfFair();
        int answer = fair(fair, text);
        if (answer < 0) {
            throw new IllegalStateException(text + " answered " + answer);
        }
        return fair;
    }

    /** All that can be asked of where things are, in one line. */
    static String state(HalfFair fair) {
        StringBuilder text = new StringBuilder("counts");
        for (int what = 0; what <= 10; what++) {
            text.append(' ').append(fair.count(what));
        }
        for (int h = 0; h < fair.count(1); h++) {
            text.append("; half ").append(h);
            for (int what = 0; what <= 4; what++) {
                text.append(' ').append(fair.half(h, what));
            }
        }
        for (int b = 0; b < fair.count(2); b++) {
            text.append("; buyer ").append(b);
            for (int what = 0; what <= 5; what++) {
                text.append(' ').append(fair.buyer(b, what));
            }
        }
        return text.append("; spot ").append(fair.spot(0, 0)).append("; forgers ").append(fair.forgers(0)).toString();
    }

    /** What fair() and rule() answer for a FAULT of this kind at this place. */
    static int fault(int place, int kind) {
        return -2 - (1 + 8 * place + kind);
    }
}
