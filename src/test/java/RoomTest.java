import com.sun.management.ThreadMXBean;
import java.lang.management.ManagementFactory;

/** A run of 512 calls, however dear, makes little: all of a run lives in one room, and nothing leaves it. */
public final class RoomTest {
    /** The room takes 7.3 million elements; this is 100,000 of four bytes, some five times what a run makes. */
    private static final long MOST_BYTES = 400_000;
    private static final int CALLS = 512;
    private static final ThreadMXBean MEMORY = (ThreadMXBean) ManagementFactory.getThreadMXBean();

    private interface Run {
        void calls();
    }

    public static void main(String[] args) {
        String checks = "[FEN \"6k1/6p1/8/8/8/8/8/K3Q3 w - - 0 1\"]" + "Qe8 Kh7 Qh5 Kg8 ".repeat(75) + "*";
        String marks = "{" + "r".repeat(200) + "}" + "e4 $255$255$255$255 (d4 d5 (c5 c4 (c3 e6 (e5)))) ".concat("*");
        String late = "Nf3 Nf6 Ng1 Ng8 ".repeat(75) + "Nf3 *";
        makesLittle("a new object", () -> new MoveTexts());
        for (String text : new String[] {checks, marks}) {
            makesLittle("read and write", () -> readAndWrite(text));
        }
        makesLittle("refused again and again", () -> refused(late));
        makesLittle("all kinds of answers", () -> answers(checks));
        makesLittle("adding", () -> adding());
        makesLittle("saying", () -> saying());
        Check.close("RoomTest");
    }

    private static void makesLittle(String what, Run run) {
        run.calls();
        long before = MEMORY.getThreadAllocatedBytes(Thread.currentThread().getId());
        run.calls();
        long made = MEMORY.getThreadAllocatedBytes(Thread.currentThread().getId()) - before;
        Check.due(what + " makes " + made + " bytes: too much", made > MOST_BYTES, false);
    }

    private static int typed(MoveTexts x, String text) {
        Check.type(x, text);
        return (text.length() + 7) / 8;
    }

    private static void readAndWrite(String text) {
        MoveTexts x = new MoveTexts();
        int calls = 0;
        while (calls + (text.length() + 7) / 8 + 5 < CALLS) {
            calls += typed(x, text) + 4;
            Check.due("read", x.read(), 0);
            x.write();
            x.go(x.nodes());
        }
        for (; calls < CALLS; calls++) {
            x.write();
        }
    }

    private static void refused(String text) {
        MoveTexts x = new MoveTexts();
        for (int calls = typed(x, text); calls < CALLS; calls++) {
            Check.due("read", x.read(), 80000 + text.length() - 5);
        }
    }

    private static void answers(String text) {
        MoveTexts x = new MoveTexts();
        int calls = typed(x, text) + 1;
        x.read();
        for (int k = 0; calls < CALLS; k++) {
            x.go(299 - k % 8);
            x.signs(x.move(0));
            x.find();
            calls += 4;
        }
    }

    private static void adding() {
        String[] squares = {"g1f3", "g8f6", "f3g1", "f6g8"};
        MoveTexts x = new MoveTexts();
        for (int i = 0; i < 300; i++) {
            x.add(Check.move(squares[i % 4]));
        }
        for (int calls = 300; calls < CALLS; calls++) {
            x.write();
        }
    }

    private static void saying() {
        MoveTexts x = new MoveTexts();
        String remark = "s".repeat(200);
        for (int calls = 0; calls + 27 < CALLS; calls += 27) {
            typed(x, remark);
            x.say();
            x.add(x.move(0));
        }
    }
}
