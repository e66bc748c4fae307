/** Promise 6: write. */
public final class WriteTest {
    public static void main(String[] args) {
        plain();
        tagsAndRemarks();
        numbers();
        marksAreNumbers();
        otherLines();
        linesWithinLines();
        becauseOfLead();
        longGame();
        writtenIsReadAgain();
        Check.close("WriteTest");
    }

    private static MoveTexts written(String text, String due) {
        MoveTexts x = Check.game(text);
        Check.due("written <" + text + ">", Check.written(x), due);
        return x;
    }

    private static void plain() {
        written("*", "*");
        written("1/2-1/2", "1/2-1/2");
        written(" e4\n1-0", "1. e4 1-0");
        written("1...ee4 1e5 Ng1f3 Nbc6 Bf1b5 0-1", "1. e4 e5 2. Nf3 Nc6 3. Bb5 0-1");
        written("f3 e5 g4 Qh4 *", "1. f3 e5 2. g4 Qh4# *");
    }

    private static void tagsAndRemarks() {
        written("[a \"\"]*", "[a \"\"]\n\n*");
        written("[ b \"x\" ][a \"q\\\"\\\\]\"] e4 1-0", "[b \"x\"]\n[a \"q\\\"\\\\]\"]\n\n1. e4 1-0");
        written("{one} ;two\n *", "{one two} *");
        written("[a \"b\"]{one} e4 *", "[a \"b\"]\n\n{one} 1. e4 *");
        written("{ }*", "{ } *");
        written("e4 {} ;\n e5 *", "1. e4 e5 *");
        written("e4{(}e5{a\nb}*", "1. e4 {(} 1... e5 {a b} *");
    }

    private static void numbers() {
        written("e4 {a} e5 Nf3 {b} Nc6 {c} d4 *", "1. e4 {a} 1... e5 2. Nf3 {b} 2... Nc6 {c} 3. d4 *");
        written("e4 $1 e5 $2 Nf3 *", "1. e4 $1 e5 $2 2. Nf3 *");
        written("{a} e4 e5 *", "{a} 1. e4 e5 *");
        String late = "[FEN \"4k3/8/8/8/8/8/8/4K3 b - - 0 999\"]";
        written(late + "{a} Kd8 (Kf8) Kd1 Ke8 (Kd7 Kc1) *",
            late + "\n\n{a} 999... Kd8 (999... Kf8) 1000. Kd1 Ke8 (1000... Kd7 1001. Kc1) *");
    }

    private static void marksAreNumbers() {
        written("e4! e5? d4!! d5?? c4!? c5?! $0 $255 $17 {a} *",
            "1. e4 $1 e5 $2 2. d4 $3 d5 $4 3. c4 $5 c5 $6 $0 $255 $17 {a} *");
    }

    private static void otherLines() {
        written("e4 (d4) e5 *", "1. e4 (1. d4) 1... e5 *");
        written("e4 e5 (c5) Nf3 *", "1. e4 e5 (1... c5) 2. Nf3 *");
        written("e4 (d4 d5) (c4 {x} c5 $9) {y} e5 *", "1. e4 {y} (1. d4 d5) (1. c4 {x} 1... c5 $9) 1... e5 *");
        written("e4 {a} (d4) {b} *", "1. e4 {a b} (1. d4) *");
    }

    private static void linesWithinLines() {
        written("e4 (d4 (c4)) *", "1. e4 (1. d4) (1. c4) *");
        written("e4 (d4 d5 (Nf6 c4 (Nf3 g6)) Nc3) c5 *", "1. e4 (1. d4 d5 (1... Nf6 2. c4 (2. Nf3 g6)) 2. Nc3) 1... c5 *");
        written("e4 (d4 d5 (d6 (c6 c4) e4) Nf3) (c4) *", "1. e4 (1. d4 d5 (1... d6 2. e4) (1... c6 2. c4) 2. Nf3) (1. c4) *");
    }

    private static void becauseOfLead() {
        MoveTexts x = Check.game("1. e4 e5 (1... c5 2. Nf3) (1... e6) 2. Nc3 *");
        x.go(5);
        x.lead();
        Check.due("written", Check.written(x), "1. e4 e6 (1... e5 2. Nc3) (1... c5 2. Nf3) *");
        x.end(2);
        Check.due("written", Check.written(x), "1. e4 e6 (1... e5 2. Nc3) (1... c5 2. Nf3) 0-1");
    }

    private static void longGame() {
        MoveTexts x = new MoveTexts();
        String[] round = {"g1f3", "g8f6", "f3g1", "f6g8"};
        StringBuilder due = new StringBuilder();
        String remark = "r".repeat(200);
        for (int i = 0; i < 300; i++) {
            x.add(Check.move(round[i % 4]));
            for (int k = 0; k < 4; k++) {
                x.addMark(255);
            }
            x.cut(0);
            Check.type(x, remark);
            x.say();
            due.append(i / 2 + 1).append(i % 2 == 0 ? ". " : "... ");
            due.append(new String[] {"Nf3", "Nf6", "Ng1", "Ng8"}[i % 4]);
            due.append(" $255 $255 $255 $255 {").append(remark).append("} ");
        }
        Check.due("written", Check.written(x), due + "*");
        Check.due("out stays", x.out(due.length()), '*');
        Check.due("its end", x.out(due.length() + 1), 0);
        x.write();
        Check.due("the same again", Check.out(x), due + "*");
    }

    private static void writtenIsReadAgain() {
        MoveTexts x = Check.game("[a \"b\\\"\"]{c} e4! (d4 {d} d5 (Nf6 (c5))) e5 $7 {e} (c5 Nf3) Nf3 1-0");
        int nodes = x.nodes();
        String once = Check.written(x);
        Check.due("text is not touched by write", x.cut(1), false);
        Check.due("read", Check.read(x, once), 0);
        Check.due("written", Check.written(x), once);
        Check.due("as many nodes", x.nodes(), nodes);
        MoveTexts y = Check.game("[Result \"1-0\"] e4 1-0");
        y.end(2);
        Check.due("what is written may be refused", Check.read(y, Check.written(y)), 90000 + "[Result \"1-0\"]\n\n1. e4 ".length());
    }
}
