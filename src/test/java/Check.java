import java.nio.charset.StandardCharsets;

/** What all tests of the project use: typing texts, and counting what is not as due. */
final class Check {
    private static int wrong = 0;

    private Check() {
    }

    interface Call {
        long answer();
    }

    /** Makes the same object each time. */
    interface Maker {
        MoveTexts made();
    }

    interface Act {
        long answer(MoveTexts x);
    }

    static void due(String what, long got, long want) {
        if (got != want) {
            wrong++;
            System.out.println(what + " answered " + got + ", due is " + want);
        }
    }

    static void due(String what, boolean got, boolean want) {
        due(what, got ? 1 : 0, want ? 1 : 0);
    }

    static void due(String what, String got, String want) {
        if (!got.equals(want)) {
            wrong++;
            System.out.println(what + " answered <" + got + ">, due is <" + want + ">");
        }
    }

    /** The call throws just that exception. */
    static void throwsDue(String what, Class<?> exception, Call call) {
        String got;
        try {
            got = "answer " + call.answer();
        } catch (RuntimeException e) {
            got = e.getClass().getSimpleName();
        }
        due(what, got, exception.getSimpleName());
    }

    /** The call throws just that exception, and the object is as if it had not been called. */
    static void refused(String what, Class<?> exception, Maker maker, Act act) {
        MoveTexts x = maker.made();
        throwsDue(what, exception, () -> act.answer(x));
        due(what + " changes nothing", all(x), all(maker.made()));
    }

    /** The call answers so, and the object is as if it had not been called. */
    static void unchanged(String what, long want, Maker maker, Act act) {
        MoveTexts x = maker.made();
        due(what, act.answer(x), want);
        due(what + " changes nothing", all(x), all(maker.made()));
    }

    static void type(MoveTexts x, String text) {
        byte[] bytes = text.getBytes(StandardCharsets.ISO_8859_1);
        for (int i = 0; i < bytes.length; i += 8) {
            int n = Math.min(8, bytes.length - i);
            long w = 0;
            for (int k = n - 1; k >= 0; k--) {
                w = w << 8 | bytes[i + k] & 255;
            }
            if (!x.type(w, n)) {
                due("type of <" + text + ">", false, true);
                return;
            }
        }
    }

    /** Reads a text in place of all that was typed before. */
    static int read(MoveTexts x, String text) {
        x.cut(0);
        type(x, text);
        return x.read();
    }

    /** A new object that has read a text without a fault. */
    static MoveTexts game(String text) {
        MoveTexts x = new MoveTexts();
        due("read of <" + text + ">", read(x, text), 0);
        return x;
    }

    static MoveTexts position(String fen) {
        return game("[FEN \"" + fen + "\"]*");
    }

    static int find(MoveTexts x, String signs) {
        x.cut(0);
        type(x, signs);
        int answer = x.find();
        x.cut(0);
        return answer;
    }

    static String out(MoveTexts x) {
        StringBuilder all = new StringBuilder();
        for (int i = 0; x.out(i) != 0; i++) {
            all.append((char) x.out(i));
        }
        return all.toString();
    }

    static String written(MoveTexts x) {
        int length = x.write();
        String all = out(x);
        due("how long <" + all + "> is", length, all.length());
        return all;
    }

    static String signs(MoveTexts x, int move) {
        int length = x.signs(move);
        String all = out(x);
        due("how long <" + all + "> is", length, all.length());
        return all;
    }

    static String remark(MoveTexts x, int node) {
        StringBuilder all = new StringBuilder();
        for (int k = 0; k < x.node(node, 5); k++) {
            all.append((char) x.remark(node, k));
        }
        return all.toString();
    }

    static String marks(MoveTexts x, int node) {
        StringBuilder all = new StringBuilder();
        for (int k = 0; k < x.node(node, 4); k++) {
            all.append(k == 0 ? "" : " ").append(x.mark(node, k));
        }
        return all.toString();
    }

    static String tag(MoveTexts x, int k, boolean value) {
        StringBuilder all = new StringBuilder();
        for (int i = 0; x.tag(k, value, i) != 0; i++) {
            all.append((char) x.tag(k, value, i));
        }
        return all.toString();
    }

    /** All legal moves HERE, as one text. */
    static String moves(MoveTexts x) {
        StringBuilder all = new StringBuilder();
        for (int k = 0; x.move(k) != MoveTexts.NONE; k++) {
            all.append(x.move(k)).append(' ');
        }
        return all.toString();
    }

    static int square(String name) {
        return name.charAt(0) - 'a' + 8 * (name.charAt(1) - '1');
    }

    /** A move told by its squares and the number of the man that a pawn becomes: e7e8 and 5. */
    static int move(String squares, int becomes) {
        return square(squares.substring(0, 2)) + 64 * square(squares.substring(2)) + 4096 * becomes;
    }

    static int move(String squares) {
        return move(squares, 0);
    }

    /** All that an object tells of its game, as one text. */
    static String state(MoveTexts x) {
        StringBuilder all = new StringBuilder();
        all.append(x.nodes()).append(' ').append(x.here()).append(' ').append(x.result()).append(' ');
        for (int k = 0; k < x.tags(); k++) {
            all.append(tag(x, k, false)).append('=').append(tag(x, k, true)).append('\n');
        }
        for (int node = 0; node <= x.nodes(); node++) {
            for (int what = 0; what < 6; what++) {
                all.append(x.node(node, what)).append(',');
            }
            all.append(marks(x, node)).append(' ').append(remark(x, node)).append('\n');
        }
        for (int square = 0; square < 64; square++) {
            all.append(x.man(square)).append(' ');
        }
        return all.toString();
    }

    /** How long the text is, told by cut alone. */
    static int textLength(MoveTexts x) {
        int length = 2000;
        while (length > 0 && !x.cut(length)) {
            length--;
        }
        return length;
    }

    /** The whole state, and what OUT and the text hold. (The text is used up for it.) */
    static String all(MoveTexts x) {
        StringBuilder all = new StringBuilder(state(x));
        all.append(moves(x)).append('\n').append(out(x)).append('\n');
        all.append(textLength(x)).append(' ').append(x.find()).append(' ').append(said(x)).append(' ');
        return all.append(x.read()).append('\n').append(written(x)).toString();
    }

    /** The text as say takes it. */
    private static String said(MoveTexts x) {
        try {
            x.say();
        } catch (IllegalArgumentException e) {
            return "not said";
        }
        String text = remark(x, x.here());
        type(x, text);
        return text;
    }

    /** Ends a test's main method. */
    static void close(String test) {
        System.out.println(test + ": " + (wrong == 0 ? "all answers are as due" : wrong + " answers are not as due"));
        if (wrong != 0) {
            System.exit(1);
        }
    }
}
