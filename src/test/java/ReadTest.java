/** Promise 4: read, with every fault of the text of a game and its place. */
public final class ReadTest {
    private static final String EIGHT_TAGS = "[a\"\"][b\"\"][c\"\"][d\"\"][e\"\"][f\"\"][g\"\"][h\"\"]";

    public static void main(String[] args) {
        wholeGame();
        notWrittenSo();
        tagFaults();
        moveFaults();
        numberFaults();
        tooMuch();
        tooManyMoves();
        results();
        remarks();
        marks();
        linesWithinLines();
        waysOfWriting();
        faultChangesNothing();
        newGameInPlace();
        Check.close("ReadTest");
    }

    private static void fault(String text, int kind, int place) {
        Check.due("read of <" + text + ">", Check.read(new MoveTexts(), text), 10000 * kind + place);
    }

    private static String fen(String rest) {
        return "[FEN \"" + rest + "\"]";
    }

    private static void wholeGame() {
        MoveTexts x = Check.game("[Event \"A\"]\n\n{at first} 1. e4 $3 {good} e5 2. Nf3 (2. f4 exf4) Nc6 1/2-1/2\n");
        Check.due("nodes", x.nodes(), 6);
        Check.due("result", x.result(), 3);
        Check.due("here", x.here(), 0);
        Check.due("tags", x.tags(), 1);
        Check.due("the text is empty", x.cut(1), false);
        Check.due("remark 0", Check.remark(x, 0), "at first");
        Check.due("remark 1", Check.remark(x, 1), "good");
        Check.due("marks", Check.marks(x, 1), "3");
        int[] parents = {-1, 0, 1, 2, 2, 4, 3};
        int[] moves = {-1, Check.move("e2e4"), Check.move("e7e5"), Check.move("g1f3"), Check.move("f2f4"),
            Check.move("e5f4"), Check.move("b8c6")};
        for (int node = 0; node <= 6; node++) {
            Check.due("parent of " + node, x.node(node, 0), parents[node]);
            Check.due("move of " + node, x.node(node, 1), moves[node]);
        }
    }

    private static void notWrittenSo() {
        fault("", 1, 0);
        fault(" \n ", 1, 3);
        fault("1. e4", 1, 5);
        fault("1. e4 \n", 1, 7);
        fault("1.", 1, 2);
        fault("1", 1, 1);
        fault("e4 ) *", 1, 3);
        fault("( e4 ) *", 1, 0);
        fault("e4 () *", 1, 4);
        fault("e4 ((d4)) *", 1, 4);
        fault("e4 (d4 *", 1, 7);
        fault("e4 (d4", 1, 6);
        fault("e4 (d4)", 1, 7);
        fault("e4 (1-0) *", 1, 5);
        fault("e4 (*) *", 1, 4);
        fault("e4 ({a} d4) *", 1, 4);
        fault("e4 (;a\nd4) *", 1, 4);
        fault("1. *", 1, 3);
        fault("1. 1-0", 1, 3);
        fault("1 .e4 *", 1, 2);
        fault("1.\n.e4 *", 1, 3);
        fault("1. e4 1-1", 1, 7);
        fault("1. e4 1/2-1/", 1, 7);
        fault(".e4 *", 1, 0);
        fault("e4 % *", 1, 3);
        fault("e4, e5 *", 1, 2);
        fault("+e4 *", 1, 0);
        fault("e4!!! *", 1, 4);
        fault("e4! ? *", 1, 4);
        fault("e4 $1 ! *", 1, 6);
        fault("e4 {a} $1 *", 1, 7);
        fault("e4 {a} ! *", 1, 7);
        fault("e4 (d4) $1 *", 1, 8);
        fault("$1 e4 *", 1, 0);
        fault("! *", 1, 0);
        fault("e4 $ 1 *", 1, 4);
        fault("e4 $", 1, 4);
        fault("e4 $x *", 1, 4);
        fault("e4 $1234 *", 1, 7);
        fault("e4 $0001 *", 1, 7);
        fault("e4 {open", 1, 8);
        fault("e4 {open;\n *", 1, 12);
        fault("e4 ; a } b\n*", 1, 7);
        fault("e4 ; a", 1, 6);
        fault("{a", 1, 2);
        fault(";}\n*", 1, 1);
        fault("e4 } *", 1, 3);
        fault("e4 * *", 1, 5);
        fault("e4 * {a}", 1, 5);
        fault("e4 * ;a", 1, 5);
        fault("e4 1-01", 1, 6);
        fault("{a}[a \"b\"] *", 1, 3);
        fault("e4 [a \"b\"] *", 1, 3);
        fault("* [a \"b\"]", 1, 2);
    }

    private static void tagFaults() {
        fault("[", 1, 1);
        fault("[]*", 1, 1);
        fault("[ \"b\"]*", 1, 2);
        fault("[a-b \"b\"]*", 1, 2);
        fault("[a b \"b\"]*", 1, 3);
        fault("[a]*", 1, 2);
        fault("[a \"b\" c]*", 1, 7);
        fault("[a \"b\"", 1, 6);
        fault("[a \"b", 1, 5);
        fault("[a \"b\nc\"]*", 1, 5);
        fault("[a \"b\\\"]*", 1, 9);
        fault("[a \"b\\n\"]*", 1, 6);
        fault("[a \"b\\\n\"]*", 1, 6);
        fault("[a \"\\", 1, 5);
        fault("[a \"b\"\"c\"]*", 1, 6);
        fault(EIGHT_TAGS + " [i\"\"]*", 2, 41);
        fault(EIGHT_TAGS + "[i\"\"*", 1, 44);
        fault(EIGHT_TAGS + fen("x") + "*", 2, 40);
        Check.game(EIGHT_TAGS + "*");
        fault("[abcdefghijklm\"\"]*", 2, 0);
        fault("[abcdefghijklm\"\"", 1, 16);
        Check.game("[abcdefghijkl\"\"]*");
        fault("[a \"1\"] [a \"2\"]*", 2, 8);
        Check.game("[a \"1\"] [A \"2\"] [aa \"3\"]*");
        fault("[a \"" + "x".repeat(97) + "\"]*", 2, 0);
        fault("[a \"" + "\\\"".repeat(97) + "\"]*", 2, 0);
        Check.due("96 characters", Check.tag(Check.game("[a \"" + "\\\\".repeat(96) + "\"]*"), 0, true), "\\".repeat(96));
        fault(fen("x".repeat(97)) + "*", 2, 0);
        fault(" " + fen("8/8/8/8/8/8/8/8 w - - 0 1") + "*", 3, 1);
        fault("[FEN \"\"]*", 3, 0);
        Check.game("[fen \"\"][Fen \"\"]*");
        String start = "4k3/8/8/8/8/8/8/4K3 w - - 0 1";
        fault(fen(start) + fen(start) + "*", 2, fen(start).length());
    }

    private static void moveFaults() {
        fault("1. e4 e4 *", 4, 6);
        fault("1. Nd2 *", 4, 3);
        fault("1. e4 e5 2. Ke3 *", 4, 12);
        fault("1. abc *", 4, 3);
        fault("P *", 4, 0);
        fault("e4e5 *", 4, 0);
        fault("e41-0", 4, 0);
        fault("e2e4 *", 4, 0);
        fault("Pe4 *", 4, 0);
        fault("nf3 *", 4, 0);
        fault("0-0 *", 7, 0);
        fault("Nf3 Nf6 g3 g6 Bg2 Bg7 Kg1 *", 4, 22);
        fault("e4=Q *", 4, 0);
        String knights = fen("7k/8/8/8/8/8/8/KN3N2 w - - 0 1");
        fault(knights + "Nd2 *", 4, knights.length());
        fault("1. Nxf3 *", 5, 3);
        fault("1. Nf3+ *", 5, 3);
        fault("1. Nf3# *", 5, 3);
        fault("1. N+xf3 *", 5, 3);
        fault("e4 d5 ed5 *", 5, 6);
        fault("e4 d5 exd5 Qd5 *", 5, 11);
        fault("e4 d5 d5 *", 4, 6);
        fault("e4 d5 xd5 *", 4, 6);
        fault("f3 e5 g4 Qh4+ *", 5, 9);
        fault("e4 e5 Qh5 Nc6 Bc4 Nf6 Qf7 *", 5, 22);
        fault("e4 e5 Qh5 Nc6 Bc4 Nf6 Qxf7+ *", 5, 22);
        fault("1. e4 (1. e4) *", 6, 10);
        fault("1. e4 (1. d4) (1. d4) *", 6, 18);
        fault("1. e4 (1. d4 (1. e4)) *", 6, 17);
        fault("e4 (ee4) *", 6, 4);
        Check.game("e4 (d4) e5 *");
    }

    private static void numberFaults() {
        fault("2. e4 *", 7, 0);
        fault("1. e4 e5 3. Nf3 *", 7, 9);
        fault("1. e4 2. e5 *", 7, 6);
        fault("1. e4 2/1", 7, 6);
        fault("1. e4 e5 1-", 7, 9);
        fault("0. e4 *", 7, 0);
        fault("00001. e4 *", 7, 0);
        fault("00011. e4 *", 1, 4);
        fault("1. e4 (2. d4) *", 7, 7);
        fault("1. e4 e5 (2. d5) *", 7, 10);
        String late = fen("4k3/8/8/8/8/8/8/4K3 b - - 0 999");
        fault(late + "999. Kd8 999. Kd1 *", 7, late.length() + 9);
        fault(late + "999. Kd8 10000. Kd1 *", 1, late.length() + 13);
        Check.game(late + "999. Kd8 1000. Kd1 1000... Ke8 *");
        Check.game("0001. e4 001... e5 02.....Nf3 2Nc6 *");
        Check.game("1... e4 1. e5 *");
    }

    private static void tooMuch() {
        fault("e4 $1 $2 $3 $4 $5 *", 8, 15);
        fault("e4! $2 $3 $4 $5 *", 8, 13);
        fault("e4 $1 $2 $3 $4 $", 1, 16);
        fault("e4 $256 *", 8, 3);
        fault("e4 $999 *", 8, 3);
        fault("e4 $2561 *", 8, 3);
        Check.game("e4 $255 $0 $00 $007 *");
        Check.game("e4!$2$3$4*");
        String most = "x".repeat(200);
        Check.game("{" + most + "} e4 {" + most + "} *");
        fault("e4 {" + most + "x} *", 8, 3);
        fault("{" + most + "x} *", 8, 0);
        fault("e4 ;" + most + "x\n *", 8, 3);
        fault("e4 {" + most + "x", 1, 205);
        fault("e4 ;" + most + "x}\n *", 1, 205);
        fault("e4 {" + most + "} {} (d4) ;x\n *", 8, 214);
        Check.game("e4 {" + most + "} {} (d4) ;\n *");
        fault("e4 {" + "x".repeat(100) + "} {" + "x".repeat(100) + "} *", 8, 106);
        Check.due("a space between counts", Check.game("e4 {" + "x".repeat(100) + "} {" + "x".repeat(99) + "} *").node(1, 5), 200);
        String six = "e4 (d4 (c4 (b4 (a4 (f4 (g4";
        Check.game(six + ")))))) *");
        fault(six + " (h4))))))) *", 8, 27);
        fault(six + " (", 8, 27);
        fault(six + "((", 8, 26);
        Check.due("brackets that were closed do not count", Check.game(six + ") (h4)))))) (Nf3) *").nodes(), 9);
    }

    private static void tooManyMoves() {
        StringBuilder shuffle = new StringBuilder();
        String[] round = {"Nf3", "Nf6", "Ng1", "Ng8"};
        for (int i = 0; i < 300; i++) {
            shuffle.append(round[i % 4]).append(' ');
        }
        Check.due("300 moves", Check.game(shuffle + "*").nodes(), 300);
        fault(shuffle + "Nf3 *", 8, 1200);
        fault(shuffle + "1. Nf3 *", 7, 1200);
        fault(shuffle + "Nf4 *", 4, 1200);
        fault(shuffle + "Nxf3 *", 5, 1200);
        fault(shuffle + "(Ng8) *", 6, 1201);
        fault(shuffle + "(Nh5) *", 8, 1201);
    }

    private static void results() {
        String[] signs = {"*", "1-0", "0-1", "1/2-1/2"};
        for (int result = 0; result < 4; result++) {
            Check.due("result", Check.game(signs[result]).result(), result);
            Check.due("result behind a move", Check.game("e4 " + signs[result] + "\n ").result(), result);
            Check.game("[Result \"" + signs[result] + "\"] e4 " + signs[result]);
            fault("[Result \"" + signs[result] + "\"] e4 " + signs[(result + 1) % 4], 9, 15 + signs[result].length());
        }
        fault("[Result \"?\"] e4 1-0 x", 9, 16);
        Check.game("[result \"1-0\"] *");
        Check.game("[Results \"1-0\"] *");
        Check.due("before all else", Check.game("e4 {a}0-1").result(), 2);
        Check.due("right behind a mark", Check.game("e4!1-0").result(), 1);
        fault("e4 (d4 0-1) *", 7, 7);
        fault("1. e4 (1. d4 1-0) *", 1, 14);
    }

    private static void remarks() {
        MoveTexts x = Check.game("{a}{}; b\n{\n}1. e4 {c\nd} ;\n;e{f;g\n(d4 {h} {i} (c4 {j}) {k}) {l} (b4) ;m\n 1... e5{ } {n} *");
        Check.due("of node 0", Check.remark(x, 0), "a  b  ");
        Check.due("of e4", Check.remark(x, 1), "c d e{f;g l m");
        Check.due("of d4", Check.remark(x, 2), "h i k");
        Check.due("of c4", Check.remark(x, 3), "j");
        Check.due("of b4", Check.remark(x, 4), "");
        Check.due("of e5", Check.remark(x, 5), "  n");
    }

    private static void marks() {
        String[] signs = {"!", "?", "!!", "??", "!?", "?!"};
        for (int i = 0; i < 6; i++) {
            Check.due("mark " + signs[i], Check.marks(Check.game("e4" + signs[i] + "*"), 1), "" + (i + 1));
            Check.due("mark " + signs[i], Check.marks(Check.game("e4\n" + signs[i] + " $7 $0$255 e5*"), 1), i + 1 + " 7 0 255");
        }
    }

    private static void linesWithinLines() {
        MoveTexts x = Check.game("e4 e5 (c5 (e6 d4) Nf3 (Nc3 Nc6) d6) (c6) Nf3 *");
        int[] parents = {-1, 0, 1, 1, 1, 4, 3, 3, 7, 6, 1, 2};
        Check.due("nodes", x.nodes(), 11);
        for (int node = 0; node <= 11; node++) {
            Check.due("parent of " + node, x.node(node, 0), parents[node]);
        }
        Check.due("the first one goes on", x.node(1, 2), 2);
        Check.due("then", x.node(2, 3), 3);
        Check.due("then", x.node(3, 3), 4);
        Check.due("then", x.node(4, 3), 10);
        Check.due("none", x.node(10, 3), -1);
    }

    private static void waysOfWriting() {
        Check.game("\n [ a\n\"b\" ] [c\"d\"]{e};f\n1.e4!{g}(1.d4)e5(c5)(c6){h}2Nf3\n*\n");
        Check.game("1.e4$1{a}1...e5*");
        Check.game("[a\"b\"]e4*");
        Check.game("e4 ( \nd4 \n) *");
        Check.game("[azAZ09 \"\"]*");
        MoveTexts x = Check.game(fen("r3k2r/1P4P1/8/3pP3/8/8/8/R3K2R w KQkq d6 0 37")
            + "37. exd6 (37. O-O-O Kf7 38. gxh8=N+) (O-O) (bxa8=R+) 37... Rxa1+ *");
        Check.due("nodes", x.nodes(), 7);
    }

    private static void faultChangesNothing() {
        MoveTexts x = Check.game("[a \"b\"]{c} 1. e4 $1 {d} (d4) 1-0");
        x.go(1);
        x.write();
        String before = Check.state(x) + Check.out(x);
        String wrong = "[x \"y\"]{z} c4 $2 {w} (c3) 0-1 ?";
        Check.due("fault", Check.read(x, wrong), 10000 + wrong.length() - 1);
        Check.due("nothing changes", Check.state(x) + Check.out(x), before);
        Check.due("the text stays", x.cut(wrong.length()), true);
        Check.due("the same fault", x.read(), 10000 + wrong.length() - 1);
        x.cut(wrong.length() - 1);
        Check.due("without it", x.read(), 0);
        Check.due("nodes", x.nodes(), 2);
    }

    /** Games that are read one behind the other are as if each were read by a new object. */
    private static void newGameInPlace() {
        String[] texts = {"[a \"b\"]{c} e4! $7 $8 $9 {d} (d4 {e} d5 (c5)) e5 (c5) (e6) 1-0", "*", "c4 $0 $2 c5 Nf3 *",
            fen("4k3/8/8/3pP3/8/8/8/4K3 w - d6 0 37") + "{a} exd6 0-1", fen("4k3/8/8/3pP3/8/8/8/4K3 w - - 0 7") + "*",
            "[q \"\"][r \"\"] f4 (g4 $1) *"};
        MoveTexts one = new MoveTexts();
        for (int first = 0; first < texts.length; first++) {
            for (int then = 0; then < texts.length; then++) {
                for (String text : new String[] {texts[first], "e4 x", texts[then]}) {
                    int answer = Check.read(one, text);
                    Check.due("read", answer, text.equals("e4 x") ? 40003 : 0);
                }
                for (String text : new String[] {texts[first], texts[then]}) {
                    Check.due("read", Check.read(one, text), 0);
                    MoveTexts fresh = Check.game(text);
                    Check.due("state", Check.state(one), Check.state(fresh));
                    Check.due("moves", Check.moves(one), Check.moves(fresh));
                    Check.due("written", Check.written(one), Check.written(fresh));
                }
            }
        }
        MoveTexts x = Check.game(fen("4k3/8/8/8/8/8/8/4K3 b - - 0 9") + "{c} Kd8 $1 {d} 1-0");
        x.go(1);
        Check.due("read", Check.read(x, "*"), 0);
        Check.due("nodes", x.nodes(), 0);
        Check.due("tags", x.tags(), 0);
        Check.due("result", x.result(), 0);
        Check.due("here", x.here(), 0);
        Check.due("remark", x.node(0, 5), 0);
        Check.due("first child", x.node(0, 2), -1);
        Check.due("the usual first position", x.man(0), 4);
        Check.due("nodes again", Check.read(x, "e4 {a} *"), 0);
        Check.due("marks", x.node(1, 4), 0);
        Check.due("remark", Check.remark(x, 1), "a");
        Check.due("read", Check.read(x, "d4 *"), 0);
        Check.due("remark", x.node(1, 5), 0);
    }
}
