/** A game as it is written, sentence by sentence; each text is read again to the same. */
public final class WrittenEdgesTest {
    private static final String BLACK_BEGINS = "[FEN \"4k3/8/8/8/8/8/8/4K3 b - - 0 7\"]";

    public static void main(String[] args) {
        nothing();
        tags();
        valuesWithABackslash();
        remarkOfNodeZero();
        numbersOfWhite();
        numbersOfBlack();
        marks();
        remarks();
        otherLines();
        deepLines();
        order();
        signsAsShortAsTheyMayBe();
        longestGame();
        Check.close("WrittenEdgesTest");
    }

    private static void written(String text, String due) {
        MoveTexts x = Check.game(text);
        Check.due("written <" + text + ">", Check.written(x), due);
        MoveTexts again = Check.game(due);
        Check.due("written again", Check.written(again), due);
        Check.due("the same result", again.result(), x.result());
        Check.due("as many nodes", again.nodes(), x.nodes());
        Check.due("as many tags", again.tags(), x.tags());
    }

    private static void nothing() {
        written("*", "*");
        written(" 1-0 ", "1-0");
        written("\n0-1", "0-1");
        written("1/2-1/2", "1/2-1/2");
        written("{} ; \n *", "{ } *");
        written("{} ;\n *", "*");
    }

    private static void tags() {
        written("[a\"\"]*", "[a \"\"]\n\n*");
        written("[a\"1\"][b\"2\"]*", "[a \"1\"]\n[b \"2\"]\n\n*");
        written("[b\"2\"][a\"1\"] {r} e4 1-0", "[b \"2\"]\n[a \"1\"]\n\n{r} 1. e4 1-0");
        written("[a\"1\"] e4 *", "[a \"1\"]\n\n1. e4 *");
        StringBuilder read = new StringBuilder();
        StringBuilder due = new StringBuilder();
        for (int k = 0; k < 8; k++) {
            read.append("[abcdefghijk").append(k).append("\"").append("v".repeat(96)).append("\"]");
            due.append("[abcdefghijk").append(k).append(" \"").append("v".repeat(96)).append("\"]\n");
        }
        written(read + "*", due + "\n*");
        written(BLACK_BEGINS + "*", BLACK_BEGINS + "\n\n*");
    }

    private static void valuesWithABackslash() {
        written("[a\"\\\"\"]*", "[a \"\\\"\"]\n\n*");
        written("[a\"\\\\\"]*", "[a \"\\\\\"]\n\n*");
        written("[a\"\\\\\\\"x\\\"\\\\\"]*", "[a \"\\\\\\\"x\\\"\\\\\"]\n\n*");
        written("[a\"" + "\\\"".repeat(96) + "\"]*", "[a \"" + "\\\"".repeat(96) + "\"]\n\n*");
        written("[a\"[]{};()'/\"]*", "[a \"[]{};()'/\"]\n\n*");
    }

    private static void remarkOfNodeZero() {
        written("{a} *", "{a} *");
        written("{a} e4 *", "{a} 1. e4 *");
        written(";a\ne4 *", "{a} 1. e4 *");
        written("{ a }*", "{ a } *");
        written(BLACK_BEGINS + "{a} Kd8 *", BLACK_BEGINS + "\n\n{a} 7... Kd8 *");
        MoveTexts x = Check.game("{a} e4 *");
        x.say();
        Check.due("taken away", Check.written(x), "1. e4 *");
    }

    private static void numbersOfWhite() {
        written("e4 *", "1. e4 *");
        written("e4 e5 d4 *", "1. e4 e5 2. d4 *");
        written("e4 {a} e5 {b} d4 *", "1. e4 {a} 1... e5 {b} 2. d4 *");
        written("e4 e5 (c5) d4 *", "1. e4 e5 (1... c5) 2. d4 *");
        written(BLACK_BEGINS + "Kd8 Kd1 *", BLACK_BEGINS + "\n\n7... Kd8 8. Kd1 *");
        StringBuilder read = new StringBuilder();
        StringBuilder due = new StringBuilder();
        String[] moves = {"Nf3", "Nf6", "Ng1", "Ng8"};
        for (int i = 0; i < 21; i++) {
            read.append(moves[i % 4]).append(' ');
            due.append(i % 2 == 0 ? i / 2 + 1 + ". " : "").append(moves[i % 4]).append(' ');
        }
        written(read + "*", due + "*");
        String late = "[FEN \"4k3/8/8/8/8/8/8/4K3 w - - 0 999\"]";
        written(late + "Kd1 Kd8 Ke1 Ke8 *", late + "\n\n999. Kd1 Kd8 1000. Ke1 Ke8 *");
    }

    private static void numbersOfBlack() {
        written(BLACK_BEGINS + "Kd8 *", BLACK_BEGINS + "\n\n7... Kd8 *");
        written(BLACK_BEGINS + "Kd8 (Kf8) (Kd7 Kd1 Kc7) *", BLACK_BEGINS + "\n\n7... Kd8 (7... Kf8) (7... Kd7 8. Kd1 Kc7) *");
        written("e4 e5 *", "1. e4 e5 *");
        written("e4 $1 $2 e5 *", "1. e4 $1 $2 e5 *");
        written("e4 {} e5 *", "1. e4 e5 *");
        written("e4 {a} e5 *", "1. e4 {a} 1... e5 *");
        written("e4 { } e5 *", "1. e4 { } 1... e5 *");
        written("e4 $1 {a} e5 *", "1. e4 $1 {a} 1... e5 *");
        written("e4 (d4) e5 *", "1. e4 (1. d4) 1... e5 *");
        written("e4 {a} (d4) {b} e5 *", "1. e4 {a b} (1. d4) 1... e5 *");
        written("e4 e5 (c5) *", "1. e4 e5 (1... c5) *");
        written("e4 e5 {a} (c5 d4 cxd4) d4 exd4 *", "1. e4 e5 {a} (1... c5 2. d4 cxd4) 2. d4 exd4 *");
        written("e4 (d4 d5) e5 *", "1. e4 (1. d4 d5) 1... e5 *");
        written("e4 (d4 {a} d5) e5 *", "1. e4 (1. d4 {a} 1... d5) 1... e5 *");
        written("e4 (d4 d5 {a}) e5 d4 *", "1. e4 (1. d4 d5 {a}) 1... e5 2. d4 *");
        written("e4 e5 d4 (c4 c5) d5 *", "1. e4 e5 2. d4 (2. c4 c5) 2... d5 *");
    }

    private static void marks() {
        written("e4! *", "1. e4 $1 *");
        written("e4?! e5!? *", "1. e4 $6 e5 $5 *");
        written("e4 $000 $01 $099 $255 *", "1. e4 $0 $1 $99 $255 *");
        written("e4!! $4 $3 $9 {a} *", "1. e4 $3 $4 $3 $9 {a} *");
        written("e4 (d4 ? $10 $100) *", "1. e4 (1. d4 $2 $10 $100) *");
        MoveTexts x = Check.game("e4 $7 *");
        x.go(1);
        x.addMark(3);
        x.addMark(0);
        Check.due("in their order", Check.written(x), "1. e4 $7 $3 $0 *");
    }

    private static void remarks() {
        written("e4 {a} *", "1. e4 {a} *");
        written("e4 ;a;{\n*", "1. e4 {a;{} *");
        written("e4 {a\n\nb} *", "1. e4 {a  b} *");
        written("e4 {" + "x".repeat(200) + "} *", "1. e4 {" + "x".repeat(200) + "} *");
        written("e4 (d4 {a}) {b} *", "1. e4 {b} (1. d4 {a}) *");
        written("e4 (d4 (c4 {a}) {b}) {c} *", "1. e4 {c} (1. d4 {b}) (1. c4 {a}) *");
    }

    private static void otherLines() {
        written("e4 (d4) *", "1. e4 (1. d4) *");
        written("e4 (d4) (c4) (b4) *", "1. e4 (1. d4) (1. c4) (1. b4) *");
        written("e4 (d4 (c4 (b4))) *", "1. e4 (1. d4) (1. c4) (1. b4) *");
        written("e4 (d4 d5 (c5)) (c4) e5 *", "1. e4 (1. d4 d5 (1... c5)) (1. c4) 1... e5 *");
        written("e4 (d4 d5 (c5) c4) e5 *", "1. e4 (1. d4 d5 (1... c5) 2. c4) 1... e5 *");
        written("e4 (d4 d5 c4 (Nf3) c5) e5 *", "1. e4 (1. d4 d5 2. c4 (2. Nf3) 2... c5) 1... e5 *");
        written("f3 e5 g4 (e4) Qh4# (d5) 0-1", "1. f3 e5 2. g4 (2. e4) 2... Qh4# (2... d5) 0-1");
    }

    private static void deepLines() {
        String due = "1. e4 (1. d4 d5 (1... c5 2. c4 (2. c3 e6 (2... e5 3. a4 (3. a3 b6 (3... b5)))))) *";
        written("e4 (d4 d5 (c5 c4 (c3 e6 (e5 a4 (a3 b6 (b5)))))) *", due);
        written("e4 (d4 (c4 (b4 (a4 (f4 (g4)))))) *", "1. e4 (1. d4) (1. c4) (1. b4) (1. a4) (1. f4) (1. g4) *");
        MoveTexts x = Check.game(due);
        x.go(2);
        x.lead();
        Check.due("d4 leads", Check.written(x), "1. d4 (1. e4) 1... d5 (1... c5 2. c4 (2. c3 e6 (2... e5 3. a4 (3. a3 b6 (3... b5))))) *");
    }

    private static void order() {
        MoveTexts x = Check.game("e4 (d4) (c4) *");
        x.go(3);
        x.lead();
        Check.due("c4 leads", Check.written(x), "1. c4 (1. e4) (1. d4) *");
        x.add(Check.move("e7e5"));
        x.go(1);
        x.add(Check.move("c7c5"));
        Check.due("moves behind", Check.written(x), "1. c4 (1. e4 c5) (1. d4) 1... e5 *");
        x.go(0);
        x.add(Check.move("a2a3"));
        Check.due("a fourth", Check.written(x), "1. c4 (1. e4 c5) (1. d4) (1. a3) 1... e5 *");
    }

    private static void signsAsShortAsTheyMayBe() {
        written("ee4 ee5 Ng1f3 Nb8c6 Bf1b5 aa6 Bb5xc6 dxc6 *", "1. e4 e5 2. Nf3 Nc6 3. Bb5 a6 4. Bxc6 dxc6 *");
        written("e4 e5 Qh5 Nc6 Bc4 Nf6 Qh5xf7 *", "1. e4 e5 2. Qh5 Nc6 3. Bc4 Nf6 4. Qxf7# *");
        written("f3 e5 g4 Qd8h4 *", "1. f3 e5 2. g4 Qh4# *");
        written("d4 e5 Nd2 Bb4 *", "1. d4 e5 2. Nd2 Bb4 *");
        written("e4 e5 Nf3 Nf6 Bc4 Bc5 O-O O-O *", "1. e4 e5 2. Nf3 Nf6 3. Bc4 Bc5 4. O-O O-O *");
        written("Nf3 Nf6 d4 d5 Nfd2 *", "1. Nf3 Nf6 2. d4 d5 3. Nfd2 *");
    }

    /** However long it is: 300 moves, each with all that it may have. */
    private static void longestGame() {
        MoveTexts x = new MoveTexts();
        String[] squares = {"g1f3", "g8f6", "f3g1", "f6g8"};
        String[] moves = {"Nf3", "Nf6", "Ng1", "Ng8"};
        String remark = "x".repeat(200);
        StringBuilder due = new StringBuilder("{" + remark + "} ");
        Check.type(x, remark);
        x.say();
        for (int i = 0; i < 300; i++) {
            x.add(Check.move(squares[i % 4]));
            for (int k = 0; k < 4; k++) {
                x.addMark(255);
            }
            Check.type(x, remark);
            x.say();
            due.append(i / 2 + 1).append(i % 2 == 0 ? ". " : "... ").append(moves[i % 4]);
            due.append(" $255 $255 $255 $255 {").append(remark).append("} ");
        }
        Check.due("written", Check.written(x), due + "*");
    }
}
