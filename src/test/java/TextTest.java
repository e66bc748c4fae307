/** Promises 1 to 3: a new object, type, cut. */
public final class TextTest {
    public static void main(String[] args) {
        newObject();
        typing();
        typingTooMuch();
        cutting();
        Check.close("TextTest");
    }

    private static void newObject() {
        MoveTexts x = new MoveTexts();
        int[] first = {4, 2, 3, 5, 6, 3, 2, 4};
        for (int file = 0; file < 8; file++) {
            Check.due("first rank", x.man(file), first[file]);
            Check.due("second rank", x.man(8 + file), 1);
            Check.due("seventh rank", x.man(48 + file), 9);
            Check.due("last rank", x.man(56 + file), 8 + first[file]);
        }
        for (int square = 16; square < 48; square++) {
            Check.due("empty square", x.man(square), 0);
        }
        Check.due("nodes", x.nodes(), 0);
        Check.due("tags", x.tags(), 0);
        Check.due("result", x.result(), 0);
        Check.due("here", x.here(), 0);
        Check.due("out(0)", x.out(0), 0);
        Check.due("the text is empty", x.cut(1), false);
        Check.due("move(0)", x.move(0), Check.move("b1a3"));
        Check.due("remark", x.node(0, 5), 0);
        Check.due("NONE", MoveTexts.NONE, -1);
        Check.due("written", Check.written(x), "*");
    }

    private static void typing() {
        MoveTexts x = new MoveTexts();
        Check.due("lowest byte first", x.type('e' | '4' << 8, 2), true);
        Check.due("find", x.find(), Check.move("e2e4"));
        x.cut(0);
        Check.due("bytes above n do not count", x.type(0xFF00000000000000L | 'a' | '3' << 8, 2), true);
        Check.due("find", x.find(), Check.move("a2a3"));
        for (int n : new int[] {0, -1, 9, Integer.MIN_VALUE, Integer.MAX_VALUE}) {
            Check.due("type of " + n, x.type(0x2020202020202020L, n), false);
        }
        for (int c = 0; c < 256; c++) {
            MoveTexts y = new MoveTexts();
            boolean right = c == 10 || c >= 32 && c <= 126;
            Check.due("character " + c, y.type(c, 1), right);
            Check.due("character " + c + " is there", y.cut(1), right);
            Check.due("character " + c + " as the last of eight", y.type((long) c << 56 | 0x20202020202020L, 8), right);
            Check.due("all eight are there or none", y.cut(2), right);
        }
        Check.due("nothing was changed", x.find(), Check.move("a2a3"));
    }

    private static void typingTooMuch() {
        MoveTexts x = new MoveTexts();
        for (int i = 0; i < 249; i++) {
            Check.due("type", x.type(0x2020202020202020L, 8), true);
        }
        Check.due("type up to 1999", x.type(0x20202020202020L, 7), true);
        Check.due("type beyond 2000", x.type(0x2020L, 2), false);
        Check.due("type up to 2000", x.type('*', 1), true);
        Check.due("type 2001", x.type(0x20L, 1), false);
        Check.due("all 2000 are there", x.cut(2001), false);
        Check.due("read", x.read(), 0);
    }

    private static void cutting() {
        MoveTexts x = new MoveTexts();
        Check.type(x, "e4e5");
        Check.due("cut(5)", x.cut(5), false);
        Check.due("cut(-1)", x.cut(-1), false);
        Check.due("cut(MIN)", x.cut(Integer.MIN_VALUE), false);
        Check.due("cut(4)", x.cut(4), true);
        Check.due("find e4e5", x.find(), MoveTexts.NONE);
        Check.due("cut(2)", x.cut(2), true);
        Check.due("find e4", x.find(), Check.move("e2e4"));
        Check.due("cut(3)", x.cut(3), false);
        Check.type(x, "+");
        Check.due("typed behind what was kept", x.find(), -2);
        Check.due("cut(0)", x.cut(0), true);
        Check.due("cut(0) of nothing", x.cut(0), true);
        Check.due("cut(1) of nothing", x.cut(1), false);
    }
}
