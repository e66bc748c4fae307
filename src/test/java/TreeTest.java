/** Promises 9 to 14 and 17 to 20: nodes, node, mark, remark, here, go, add, addMark, say, lead. */
public final class TreeTest {
    private static final int[] FAR = {-1, Integer.MIN_VALUE, Integer.MAX_VALUE};

    public static void main(String[] args) {
        nodesAndNode();
        marksAndRemarks();
        goingAbout();
        adding();
        addingTooMuch();
        addingTooDeep();
        addingMarks();
        saying();
        leading();
        leadingTooDeep();
        deepBehindLead();
        Check.close("TreeTest");
    }

    private static MoveTexts sample() {
        return Check.game("{begin} 1. e4 $7 $255 {first} e5 (1... c5 2. Nf3) (1... e6) 2. Nc3 *");
    }

    private static void nodesAndNode() {
        MoveTexts x = sample();
        Check.due("nodes", x.nodes(), 6);
        int[][] due = {
            {-1, -1, 1, -1, 0, 5},
            {0, Check.move("e2e4"), 2, -1, 2, 5},
            {1, Check.move("e7e5"), 6, 3, 0, 0},
            {1, Check.move("c7c5"), 4, 5, 0, 0},
            {3, Check.move("g1f3"), -1, -1, 0, 0},
            {1, Check.move("e7e6"), -1, -1, 0, 0},
            {2, Check.move("b1c3"), -1, -1, 0, 0}};
        for (int node = 0; node <= 6; node++) {
            for (int what = 0; what < 6; what++) {
                Check.due("node(" + node + ", " + what + ")", x.node(node, what), due[node][what]);
            }
        }
        for (int far : FAR) {
            Check.throwsDue("node " + far, IndexOutOfBoundsException.class, () -> x.node(far, 0));
            Check.throwsDue("what " + far, IndexOutOfBoundsException.class, () -> x.node(0, far));
        }
        Check.throwsDue("node 7", IndexOutOfBoundsException.class, () -> x.node(7, 0));
        Check.throwsDue("what 6", IndexOutOfBoundsException.class, () -> x.node(0, 6));
    }

    private static void marksAndRemarks() {
        MoveTexts x = sample();
        Check.due("mark", x.mark(1, 0), 7);
        Check.due("mark", x.mark(1, 1), 255);
        Check.due("remark", Check.remark(x, 0), "begin");
        Check.due("remark", x.remark(1, 4), 't');
        int[][] none = {{1, 2}, {0, 0}, {2, 0}, {7, 0}};
        for (int[] pair : none) {
            Check.throwsDue("mark", IndexOutOfBoundsException.class, () -> x.mark(pair[0], pair[1]));
        }
        int[][] nothing = {{1, 5}, {0, 5}, {2, 0}, {7, 0}};
        for (int[] pair : nothing) {
            Check.throwsDue("remark", IndexOutOfBoundsException.class, () -> x.remark(pair[0], pair[1]));
        }
        for (int far : FAR) {
            Check.throwsDue("mark", IndexOutOfBoundsException.class, () -> x.mark(far, 0));
            Check.throwsDue("mark", IndexOutOfBoundsException.class, () -> x.mark(1, far));
            Check.throwsDue("remark", IndexOutOfBoundsException.class, () -> x.remark(far, 0));
            Check.throwsDue("remark", IndexOutOfBoundsException.class, () -> x.remark(1, far));
        }
    }

    private static long go(MoveTexts x, int node) {
        x.go(node);
        return x.here();
    }

    private static void goingAbout() {
        MoveTexts x = sample();
        Check.due("here", x.here(), 0);
        Check.due("go", go(x, 4), 4);
        Check.due("Nf3", x.man(Check.square("f3")), 2);
        Check.due("c5", x.man(Check.square("c5")), 9);
        Check.due("e5", x.man(Check.square("e5")), 0);
        Check.due("black's move", x.man(x.move(0) & 63) >= 8, true);
        Check.due("go", go(x, 6), 6);
        Check.due("e5", x.man(Check.square("e5")), 9);
        Check.due("f3", x.man(Check.square("f3")), 0);
        for (int far : new int[] {-1, 7, 300, 301, Integer.MIN_VALUE, Integer.MAX_VALUE}) {
            Check.throwsDue("go(" + far + ")", IndexOutOfBoundsException.class, () -> go(x, far));
        }
        Check.due("here stays", x.here(), 6);
        Check.due("c3", x.man(Check.square("c3")), 2);
        Check.due("go", go(x, 0), 0);
        Check.due("e4", x.man(Check.square("e4")), 0);
    }

    private static void adding() {
        MoveTexts x = new MoveTexts();
        Check.due("a new one", x.add(Check.move("e2e4")), 1);
        Check.due("here", x.here(), 1);
        Check.due("behind its move", x.man(Check.square("e4")), 1);
        Check.due("a new one", x.add(Check.move("e7e5")), 2);
        x.go(0);
        Check.due("one that is there", x.add(Check.move("e2e4")), 1);
        Check.due("here", x.here(), 1);
        Check.due("nodes", x.nodes(), 2);
        Check.due("another line", x.add(Check.move("c7c5")), 3);
        x.go(1);
        Check.due("another line", x.add(Check.move("e7e6")), 4);
        Check.due("order", x.node(1, 2), 2);
        Check.due("order", x.node(2, 3), 3);
        Check.due("order", x.node(3, 3), 4);
        Check.due("order", x.node(4, 3), -1);
        Check.due("no marks", x.node(4, 4), 0);
        Check.due("no remark", x.node(4, 5), 0);
        x.go(1);
        Check.due("the second that is there", x.add(Check.move("c7c5")), 3);
        String before = Check.state(x);
        int[] wrong = {Check.move("e2e4"), Check.move("g1g3"), Check.move("g1f3", 2), -1, Integer.MIN_VALUE, Integer.MAX_VALUE,
            Check.move("g1f3") + (1 << 24), Check.move("e1g1")};
        for (int move : wrong) {
            Check.throwsDue("add(" + move + ")", IllegalArgumentException.class, () -> x.add(move));
        }
        Check.due("nothing changes", Check.state(x), before);
    }

    private static void addingTooMuch() {
        MoveTexts x = new MoveTexts();
        String[] round = {"g1f3", "g8f6", "f3g1", "f6g8"};
        for (int i = 0; i < 300; i++) {
            Check.due("add", x.add(Check.move(round[i % 4])), i + 1);
        }
        String before = Check.state(x);
        Check.throwsDue("the 301st", UnsupportedOperationException.class, () -> x.add(Check.move("g1f3")));
        Check.throwsDue("not legal comes first", IllegalArgumentException.class, () -> x.add(Check.move("g1g3")));
        Check.due("nothing changes", Check.state(x), before);
        x.go(0);
        Check.throwsDue("the 301st", UnsupportedOperationException.class, () -> x.add(Check.move("e2e4")));
        Check.due("one that is there", x.add(Check.move("g1f3")), 1);
    }

    /** Other lines one in the other: each is one deeper. */
    private static MoveTexts deepGame() {
        return Check.game("e4 (d4 d5 (Nf6 c4 (Nf3 g6 (e6 g3 (Bf4 c5 (b6))))))*");
    }

    private static void addingTooDeep() {
        MoveTexts x = deepGame();
        int deepest = x.nodes();
        x.go(deepest);
        Check.due("it goes on", x.add(Check.move("e2e3")), deepest + 1);
        x.go(deepest);
        String before = Check.state(x);
        Check.throwsDue("seven deep", UnsupportedOperationException.class, () -> x.add(Check.move("h2h3")));
        Check.throwsDue("not legal comes first", IllegalArgumentException.class, () -> x.add(Check.move("h2h5")));
        Check.due("nothing changes", Check.state(x), before);
        Check.due("one that is there", x.add(Check.move("e2e3")), deepest + 1);
        x.go(x.node(deepest, 0));
        Check.due("beside it, six deep", x.add(Check.move("b8c6")), deepest + 2);
        x.go(0);
        Check.due("one deep", x.add(Check.move("a2a3")), deepest + 3);
    }

    private static void addingMarks() {
        MoveTexts x = new MoveTexts();
        Check.throwsDue("at node 0", IllegalStateException.class, () -> x.addMark(1));
        Check.throwsDue("not a mark comes first", IllegalArgumentException.class, () -> x.addMark(256));
        x.add(Check.move("e2e4"));
        int[] marks = {0, 255, 255, 7};
        for (int k = 0; k < 4; k++) {
            Check.due("addMark", x.addMark(marks[k]), k + 1);
        }
        Check.throwsDue("a fifth", IllegalStateException.class, () -> x.addMark(1));
        for (int mark : new int[] {-1, 256, Integer.MIN_VALUE, Integer.MAX_VALUE}) {
            Check.throwsDue("addMark(" + mark + ")", IllegalArgumentException.class, () -> x.addMark(mark));
        }
        Check.due("marks", Check.marks(x, 1), "0 255 255 7");
        x.add(Check.move("e7e5"));
        Check.throwsDue("no mark", IllegalArgumentException.class, () -> x.addMark(-1));
        Check.due("a mark of another node", x.addMark(3), 1);
        Check.due("marks", Check.marks(x, 2), "3");
    }

    private static int say(MoveTexts x, String remark) {
        x.cut(0);
        Check.type(x, remark);
        return x.say();
    }

    private static void saying() {
        MoveTexts x = Check.game("{old} e4 {older} *");
        Check.due("say", say(x, " a{;\"~"), 6);
        Check.due("remark of node 0", Check.remark(x, 0), " a{;\"~");
        Check.due("the text is empty", x.cut(1), false);
        x.go(1);
        String most = "x".repeat(200);
        Check.due("say", say(x, most), 200);
        Check.due("remark", Check.remark(x, 1), most);
        for (String wrong : new String[] {most + "x", "a}", "}", "\n", "a\nb", "x".repeat(2000)}) {
            Check.throwsDue("say", IllegalArgumentException.class, () -> say(x, wrong));
            Check.due("the text stays", x.cut(wrong.length()), true);
            Check.due("nothing changes", Check.remark(x, 1), most);
        }
        Check.due("say", say(x, "short"), 5);
        Check.due("in place of the one before", Check.remark(x, 1), "short");
        Check.due("say nothing", x.say(), 0);
        Check.due("no remark", x.node(1, 5), 0);
        Check.due("the other one stays", Check.remark(x, 0), " a{;\"~");
    }

    private static void leading() {
        MoveTexts x = sample();
        Check.throwsDue("at node 0", IllegalStateException.class, () -> x.lead() ? 1 : 0);
        x.go(1);
        Check.due("it goes on already", x.lead(), false);
        x.go(5);
        Check.due("it does not yet", x.lead(), true);
        Check.due("first", x.node(1, 2), 5);
        Check.due("then", x.node(5, 3), 2);
        Check.due("then", x.node(2, 3), 3);
        Check.due("then", x.node(3, 3), -1);
        Check.due("now it does", x.lead(), false);
        x.go(2);
        Check.due("the middle one", x.lead(), true);
        Check.due("first", x.node(1, 2), 2);
        Check.due("then", x.node(2, 3), 5);
        Check.due("then", x.node(5, 3), 3);
        Check.due("then", x.node(3, 3), -1);
        Check.due("here", x.here(), 2);
        x.go(4);
        Check.due("an only one", x.lead(), false);
    }

    /** Node 1 counts, too, once it is an other line; and moves that go on do not. */
    private static void deepBehindLead() {
        MoveTexts x = Check.game("e4 (d4) e5 (a6 a3 (a4 b6 (b5 c3 (c4 d6 (d5)))))*");
        int deepest = x.nodes();
        x.go(2);
        Check.due("e4 is an other line now", x.lead(), true);
        x.go(deepest);
        Check.due("it goes on", x.add(Check.move("h2h3")), deepest + 1);
        x.go(deepest);
        Check.throwsDue("seven deep", UnsupportedOperationException.class, () -> x.add(Check.move("g2g3")));
        x.go(1);
        Check.due("e4 leads again", x.lead(), true);
        x.go(deepest);
        Check.due("six deep", x.add(Check.move("g2g3")), deepest + 2);
        x.go(2);
        Check.throwsDue("seven deep", IllegalStateException.class, () -> x.lead() ? 1 : 0);
        MoveTexts longGame = Check.game("e4 e5 Nf3 Nc6 Bb5 a6 Ba4 Nf6 O-O Be7 Re1 (d3) *");
        longGame.go(longGame.nodes());
        Check.due("a long line is not deep", longGame.lead(), true);
    }

    private static void leadingTooDeep() {
        MoveTexts x = deepGame();
        int deepest = x.nodes();
        int brother = x.node(x.node(deepest, 0), 2);
        x.go(brother);
        Check.due("it goes on", x.lead(), false);
        x.go(deepest);
        Check.due("the deepest may lead", x.lead(), true);
        x.go(brother);
        Check.due("and the other again", x.lead(), true);
        MoveTexts y = deepGame();
        y.go(2);
        Check.due("d4 leads: all of its line is one less deep", y.lead(), true);
        y.go(y.nodes());
        Check.due("so there is room for one more", y.add(Check.move("e2e3")) > 0, true);
        y.go(y.node(y.here(), 0));
        Check.due("six deep", y.add(Check.move("h2h3")) > 0, true);
        y.go(1);
        String told = Check.state(y);
        Check.throwsDue("that would be seven deep", IllegalStateException.class, () -> y.lead() ? 1 : 0);
        Check.due("nothing changes", Check.state(y), told);
    }
}
