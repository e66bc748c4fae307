/** The text of a game, sentence by sentence: what may just stand there, and what just may not. */
public final class TextEdgesTest {
    private static final String[] ROUND = {"Nf3", "Nf6", "Ng1", "Ng8"};

    public static void main(String[] args) {
        blanks();
        tagParts();
        tagLimits();
        whatValuesHold();
        startingPosition();
        headRemarks();
        resultBeforeAllElse();
        resultInOtherLines();
        behindTheResult();
        numbers();
        numbersThatAreNotRight();
        signsAsLongAsTheyCan();
        shortMarks();
        numberedMarks();
        remarkForms();
        remarksJoined();
        remarkLimits();
        otherLines();
        otherLinesFromThePositionBefore();
        openBrackets();
        moveLimit();
        sameMoves();
        fitting();
        resultTag();
        firstFaultCounts();
        Check.close("TextEdgesTest");
    }

    /** The text has that fault at the place of ^. */
    private static void fault(int kind, String marked) {
        String text = marked.replace("^", "");
        Check.due("fault of <" + marked + ">", Check.read(new MoveTexts(), text), 10000 * kind + marked.indexOf('^'));
    }

    private static MoveTexts reads(String text, int nodes) {
        MoveTexts x = Check.game(text);
        Check.due("nodes of <" + text + ">", x.nodes(), nodes);
        return x;
    }

    private static String fen(String rest) {
        return "[FEN \"" + rest + "\"]";
    }

    private static void blanks() {
        String blank = " \n\n  ";
        String[] parts = {"", "[", "a", "\"b\"", "]", "{c}", ";d\n", "1.", "e4", "!!", "$1", "$2", "{e}", "(", "1.", "d4", "?", "d5", "{f}", ")", "{g}",
            "(", "c4", ")", "1...", "e5", "*", ""};
        String wide = String.join(blank, parts);
        String narrow = String.join("", parts);
        MoveTexts x = reads(wide, 5);
        MoveTexts y = reads(narrow, 5);
        Check.due("with and without blanks", Check.all(x), Check.all(y));
        fault(1, "1 ^. e4 *");
        fault(1, "1. ^. e4 *");
        fault(1, "1.\n^. e4 *");
        fault(1, "e4 $^ 1 *");
        fault(1, "e4 ! ^! *");
        fault(1, "e4 ! ^? *");
        fault(4, "^N f3 *");
        fault(4, "^O - O *");
        fault(1, "e4 e5 Nf3 Nf6 Be2 Be7 O-O ^-O *");
        fault(1, "1 ^-0");
        fault(1, "1^- 0");
        fault(1, "1^/2 -1/2");
        fault(7, "^0 -1");
        fault(1, "^");
        fault(1, " ^");
        fault(1, "\n^");
        fault(1, " ^.");
    }

    private static void tagParts() {
        reads("[a\"\"]*", 0);
        reads("[0\"\"]*", 0);
        reads("[zZ9aA0\"\"]*", 0);
        reads("[a\n\n\"\"]*", 0);
        fault(1, "[^");
        fault(1, "[^]*");
        fault(1, "[^\"a\"]*");
        fault(1, "[ ^\"a\"]*");
        fault(1, "[^_\"\"]*");
        fault(1, "[a^_\"\"]*");
        for (String c : new String[] {"/", ":", "@", "[", "`", "{", "-", "!", "~"}) {
            fault(1, "[a^" + c + "b\"\"]*");
        }
        fault(1, "[a ^b\"\"]*");
        fault(1, "[a^");
        fault(1, "[a ^");
        fault(1, "[a^]*");
        fault(1, "[a\"^");
        fault(1, "[a\"b^");
        fault(1, "[a\"b\"^");
        fault(1, "[a\"b\" ^");
        fault(1, "[a\"b\"^\"c\"]*");
        fault(1, "[a\"b\"^*");
        fault(1, "[a\"b\"]^]*");
        fault(1, "[a\"b\"^[b\"c\"]*");
        fault(1, "[a\"b\"]^");
        fault(1, "^]*");
        fault(1, "^\"a\"*");
    }

    private static void tagLimits() {
        StringBuilder tags = new StringBuilder();
        for (int k = 1; k <= 8; k++) {
            tags.append("[t").append(k).append("\"\"]");
            Check.due("tags", reads(tags + "*", 0).tags(), k);
        }
        fault(2, tags + "^[t9\"\"]*");
        fault(2, tags + " \n^[t9\"\"]");
        fault(2, tags + "^[t1\"\"]*");
        fault(2, tags + "^" + fen("") + "*");
        fault(1, tags + "[t9\"\"^*");
        fault(1, tags + "[^");
        reads("[abcdefghijkl\"\"]*", 0);
        fault(2, "^[abcdefghijklm\"\"]*");
        fault(2, "[a\"\"]^[" + "z".repeat(1000) + "\"\"]*");
        fault(1, "[abcdefghijklm\"\"^");
        fault(1, "[abcdefghijklm^-\"\"]*");
        fault(2, "[a\"1\"]^[a\"2\"]*");
        fault(2, "[a\"1\"][b\"1\"]^[a\"1\"]*");
        fault(1, "[a\"1\"][a\"2\"^*");
        reads("[a\"1\"][A\"1\"][aa\"1\"][a1\"1\"]*", 0);
        String most = "v".repeat(96);
        Check.due("96", Check.tag(reads("[a\"" + most + "\"]*", 0), 0, true), most);
        fault(2, "^[a\"" + most + "v\"]*");
        fault(2, "^[a\"" + "v".repeat(1900) + "\"]*");
        fault(1, "[a\"" + most + "v\"^");
        fault(1, "[a\"" + most + "v^");
        Check.due("how it is written does not count", Check.tag(reads("[a\"" + "\\\"\\\\".repeat(48) + "\"]*", 0), 0, true), "\"\\".repeat(48));
        fault(2, "^[a\"" + "\\\"\\\\".repeat(48) + "\\\\\"]*");
        Check.due("no value", Check.tag(reads("[a\"\"]*", 0), 0, true), "");
    }

    private static void whatValuesHold() {
        StringBuilder written = new StringBuilder();
        StringBuilder value = new StringBuilder();
        for (char c = 32; c <= 126; c++) {
            written.append(c == '"' || c == '\\' ? "\\" : "").append(c);
            value.append(c);
        }
        MoveTexts x = reads("[a\"" + written + "\"]*", 0);
        Check.due("all characters", Check.tag(x, 0, true), value.toString());
        Check.due("written again", Check.written(x), "[a \"" + written + "\"]\n\n*");
        fault(1, "[a\"^\n\"]*");
        fault(1, "[a\"b^\n\"]*");
        for (char c = 32; c <= 126; c++) {
            if (c != '"' && c != '\\' && c != '^') {
                fault(1, "[a\"\\^" + c + "\"]*");
            }
        }
        fault(1, "[a\"\\^\n\"]*");
        fault(1, "[a\"\\^");
        fault(1, "[a\"\\\"^");
        fault(1, "[a\"\\\\\"^");
        fault(1, "[a\"\\\"]*^");
        Check.due("blanks of a value", Check.tag(reads("[a\" b \"]*", 0), 0, true), " b ");
    }

    private static void startingPosition() {
        String kings = "4k3/8/8/8/8/8/8/4K3 w - - 0 1";
        Check.due("the position", reads(fen(kings) + "*", 0).man(0), 0);
        Check.due("its tag stays", Check.tag(reads(fen(kings) + "*", 0), 0, true), kings);
        Check.due("another name", reads("[Fen \"" + kings + "\"]*", 0).man(0), 4);
        Check.due("another name", reads("[fen \"x\"][FENS \"x\"][FE \"x\"]*", 0).man(0), 4);
        fault(3, "^" + fen("") + "*");
        fault(3, "[a\"\"] ^" + fen(kings + " ") + "*");
        fault(3, "^" + fen(kings.replace("K", "Q")) + "*");
        fault(2, "^" + fen("x".repeat(97)) + "*");
        fault(2, fen(kings) + "^" + fen("x") + "*");
        fault(1, "[FEN \"x\"^*");
        fault(3, "^[ \nFEN\n\"x\" \n]*");
        Check.due("the second tag", reads("[a\"\"]" + fen(kings) + "[b\"\"] Kd1 *", 1).tags(), 3);
        fault(4, fen(kings) + "^e4 *");
        fault(7, fen("4k3/8/8/8/8/8/8/4K3 w - - 0 7") + "^1. Kd1 *");
        reads(fen("4k3/8/8/8/8/8/8/4K3 w - - 0 7") + "7. Kd1 *", 1);
        reads(fen("4k3/8/8/8/8/8/8/4K3 b - - 0 7") + "7... Kd8 8. Kd1 *", 2);
    }

    private static void headRemarks() {
        Check.due("of node 0", Check.remark(reads("{a};b\n{c}*", 0), 0), "a b c");
        Check.due("behind a tag", Check.remark(reads("[a\"\"]{a} e4 {b} *", 1), 0), "a");
        fault(1, "{a}^[a\"\"]*");
        fault(1, "{a} ^(e4) *");
        fault(1, "{a} ^$1 e4 *");
        fault(1, "^(e4) *");
        fault(1, "^! e4 *");
    }

    private static void resultBeforeAllElse() {
        String[] signs = {"*", "1-0", "0-1", "1/2-1/2"};
        String[] begins = {"", "[a\"\"]", "{a}", ";\n", "e4 ", "e4!", "e4 $1 ", "e4{}", "e4 (d4)", "e4 (d4){}", "e4 e5 "};
        for (int result = 0; result < 4; result++) {
            for (String begin : begins) {
                Check.due(begin + signs[result], Check.game(begin + signs[result]).result(), result);
            }
        }
        fault(1, "1^");
        fault(1, "1^-");
        fault(1, "1^-1");
        fault(1, "1^/");
        fault(1, "1^/2");
        fault(1, "1^/2-");
        fault(1, "1^/2-1");
        fault(1, "1^/2-1/");
        fault(1, "1^/2-1/3");
        fault(1, "1^/2-0");
        fault(7, "^0");
        fault(7, "^0-");
        fault(7, "^0-0");
        fault(1, "01^-0");
        fault(7, "^00-1");
        fault(7, "e4 e5 ^1-");
        fault(7, "e4 e5 ^1/2-1/");
        reads("e4 e5 1-0", 2);
        fault(1, "1. ^1-0");
        fault(1, "1. ^*");
        fault(1, "1^*");
        fault(1, "1 ^1-0");
        fault(4, "^e41-0");
        fault(1, "e4 $11^-0");
        fault(1, "e4 $255^1-0");
        fault(1, "e4 1-0^1");
    }

    private static void resultInOtherLines() {
        fault(1, "e4 (d4 ^*) *");
        fault(1, "e4 (^*) *");
        fault(1, "e4 (1^-0) *");
        fault(1, "e4 (1^/2-1/2) *");
        fault(7, "e4 (^0-1) *");
        fault(1, "e4 (d4 1^-0) *");
        fault(7, "e4 (d4 d5 ^1-0) *");
        fault(7, "e4 (d4 ^0-1) *");
        fault(1, "e4 (d4 1^/2-1/2) *");
        fault(1, "e4 (d4 (c4 ^*)) *");
    }

    private static void behindTheResult() {
        reads("* \n\n ", 0);
        fault(1, "*^*");
        fault(1, "* ^{a}");
        fault(1, "* ^;a");
        fault(1, "*\n^e4");
        fault(1, "* ^(");
        fault(1, "1-0^-1");
        fault(1, "1/2-1/2^-1");
        fault(1, "0-1^1");
        fault(1, "* ^[a\"\"]");
        fault(1, "* ^1-0");
    }

    private static void numbers() {
        for (String number : new String[] {"", "1", "01", "001", "0001", "1.", "1..", "1...", "0001.", "1" + ".".repeat(500)}) {
            for (String blank : new String[] {"", " ", "\n \n"}) {
                reads((number + blank).trim().isEmpty() ? "e4 e5 *" : number + blank + "e4 " + number + blank + "e5 *", 2);
            }
        }
        fault(7, "^00001. e4 *");
        fault(7, "^0000e4 *");
        fault(7, "^00000e4 *");
        fault(1, "0001^1. e4 *");
        fault(1, "0001^1e4 *");
        fault(7, "^0011. e4 *");
        fault(7, "^9999. e4 *");
        fault(7, "^99999. e4 *");
        fault(1, "^.e4 *");
        fault(1, "^... e4 *");
        fault(1, "1.^1. e4 *");
        fault(1, "1. ^1. e4 *");
        fault(1, "1 ^1 e4 *");
        fault(1, "1.^");
        fault(1, "1. ^");
        fault(1, "1.^{a} e4 *");
        fault(1, "1. ^;a\ne4 *");
        fault(1, "1. ^(e4) *");
        fault(1, "1. e4 1... ^) *");
        fault(1, "1. e4 (1. ^) *");
        fault(1, "1. e4 (1.^");
        fault(1, "1. ^$1 *");
        fault(1, "1^, e4 *");
        fault(1, "1.^- e4 *");
        String late = fen("4k3/8/8/8/8/8/8/4K3 b - - 0 999");
        reads(late + "999... Kd8 1000. Kd1 1000... Ke8 1001. Ke1 *", 4);
        fault(7, late + "999... Kd8 ^999. Kd1 *");
        fault(7, late + "999... Kd8 ^0100. Kd1 *");
        fault(7, late + "999... Kd8 ^01000. Kd1 *");
        fault(1, late + "999... Kd8 1000^0. Kd1 *");
    }

    private static void numbersThatAreNotRight() {
        fault(7, "^0. e4 *");
        fault(7, "^2. e4 *");
        fault(7, "^11. e4 *");
        reads("1. e4 1. e5 2. d4 2. d5 *", 4);
        fault(7, "e4 ^2. e5 *");
        fault(7, "e4 ^0. e5 *");
        fault(7, "e4 e5 ^1. d4 *");
        fault(7, "e4 e5 ^3. d4 *");
        reads("e4 e5 (1... c5 2. d4) 2. d4 *", 5);
        fault(7, "e4 e5 (^2. c5) *");
        fault(7, "e4 e5 (c5 ^1. d4) *");
        fault(7, "e4 e5 (c5) ^1. d4 *");
        fault(7, "e4 e5 d4 (^1. d4) *");
        fault(7, "^2");
        fault(7, "^2.");
        fault(7, "^2. *");
        fault(7, "^2. ?");
        fault(7, "^2. Nf9 *");
    }

    private static void signsAsLongAsTheyCan() {
        reads("e4!e5?d4$1d5{a}c4(c3)c5*", 7);
        reads("e4\ne5 d4*", 3);
        fault(4, "^e4e5 *");
        fault(4, "^e4- *");
        fault(4, "^e4= *");
        fault(4, "^e40 *");
        fault(4, "^e4z *");
        fault(4, "^e4Z *");
        fault(5, "^e4+ *");
        fault(5, "^e4# *");
        fault(5, "^e4x *");
        fault(4, "^e4+e5 *");
        fault(4, "^e4=Q1-0");
        for (String c : new String[] {".", ",", "/", ":", "\"", "]", "[", "}", "_", "<", "|", "~", "&", "'", "@", "`", "%"}) {
            fault(1, "e4^" + c + " *");
            if (!c.equals("[")) {
                fault(1, "^" + c + "e4 *");
            }
        }
        for (String c : new String[] {"=", "-", "+", "#", "!", "?", "$1", "(", ")"}) {
            fault(1, "^" + c + "e4 *");
        }
        fault(4, "^a *");
        fault(4, "^z *");
        fault(4, "^A *");
        fault(4, "^Z *");
        fault(4, "^" + "e".repeat(1000) + "4 *");
    }

    private static void shortMarks() {
        String[] signs = {"!", "?", "!!", "??", "!?", "?!"};
        for (int mark = 1; mark <= 6; mark++) {
            String sign = signs[mark - 1];
            Check.due(sign, Check.marks(reads("e4" + sign + " *", 1), 1), "" + mark);
            Check.due(sign, Check.marks(reads("e4" + sign + "e5" + sign + "*", 2), 2), "" + mark);
            Check.due(sign, Check.marks(reads("e4 " + sign + "$9 *", 1), 1), mark + " 9");
            fault(1, "e4" + sign + (sign.length() == 1 ? " " : "") + "^! *");
            fault(1, "e4" + sign + (sign.length() == 1 ? " " : "") + "^? *");
            fault(1, "e4 $1 ^" + sign + " *");
            fault(1, "e4 {a} ^" + sign + " *");
            fault(1, "e4 (d4) ^" + sign + " *");
            fault(8, "e4" + sign + "$1$2$3^$4 *");
            reads("e4" + sign + "$1$2$3 *", 1);
        }
    }

    private static void numberedMarks() {
        Check.due("marks", Check.marks(reads("e4 $0 $00 $000 $255 *", 1), 1), "0 0 0 255");
        Check.due("marks", Check.marks(reads("e4$9$99$199$007*", 1), 1), "9 99 199 7");
        fault(8, "e4 $1 $1 $1 $1 ^$1 *");
        fault(8, "e4 $1 $1 $1 $1 ^$256 *");
        fault(1, "e4 $1 $1 $1 $1 $^");
        fault(1, "e4 $1 $1 $1 $1 $^x");
        fault(8, "e4 ^$256 *");
        fault(8, "e4 ^$999 *");
        reads("e4 $254 $255 *", 1);
        fault(1, "e4 $025^6 *");
        fault(1, "e4 $000^0 *");
        fault(1, "e4 $255^0 *");
        fault(1, "e4 $123^1... e5 *");
        reads("e4 $123 1... e5 *", 2);
        reads("e4 $1e5 *", 2);
        fault(1, "e4 $^");
        fault(1, "e4 $^ *");
        fault(1, "e4 $^$1 *");
        fault(1, "e4 $^-1 *");
        fault(1, "e4 $1^. *");
        fault(1, "e4 {a} ^$1 *");
        fault(1, "e4 (d4) ^$1 *");
        fault(1, "^$1 *");
        fault(1, "e4 (^$1 d4) *");
        Check.due("of an other line", Check.marks(reads("e4 (d4 $8) *", 2), 2), "8");
    }

    private static void remarkForms() {
        Check.due("brackets", Check.remark(reads("e4 {a{;(\"$} *", 1), 1), "a{;(\"$");
        Check.due("up to the line's end", Check.remark(reads("e4 ;a{;(* 1-0\n*", 1), 1), "a{;(* 1-0");
        fault(1, "e4 {^");
        fault(1, "e4 {a *^");
        fault(1, "e4 {a;}\n^}*");
        fault(1, "e4 ;a *^");
        fault(1, "e4 ;^");
        fault(1, "e4 ;^}\n*");
        fault(1, "e4 ;a^}");
        fault(1, "e4 {a}^}*");
        fault(1, "^}*");
        Check.due("a line end alone", Check.remark(reads("e4 {\n} *", 1), 1), " ");
        Check.due("line ends", Check.remark(reads("e4 {\na\n\nb\n} *", 1), 1), " a  b ");
        Check.due("what was behind ; ends at a line end", Check.remark(reads("e4 ;a\n*", 1), 1), "a");
        Check.due("a remark that ends with the text", Check.read(new MoveTexts(), "* "), 0);
        StringBuilder every = new StringBuilder();
        for (char c = 32; c <= 126; c++) {
            every.append(c == '}' ? "" : c);
        }
        Check.due("every character", Check.remark(reads("e4 {" + every + "} *", 1), 1), every.toString());
        Check.due("every character", Check.remark(reads("e4 ;" + every + "\n*", 1), 1), every.toString());
    }

    private static void remarksJoined() {
        Check.due("joined", Check.remark(reads("e4 {a} ;b\n{c}*", 1), 1), "a b c");
        Check.due("empty ones left out", Check.remark(reads("e4 {} {a} ;\n {} {b} {}*", 1), 1), "a b");
        Check.due("none", reads("e4 {} ;\n{}*", 1).node(1, 5), 0);
        Check.due("a space is not empty", Check.remark(reads("e4 { } ; \n{\n}*", 1), 1), "     ");
        Check.due("behind an other line", Check.remark(reads("e4 {a} (d4 {x}) {b} ;c\n (c4) {d} e5 {y} *", 4), 1), "a b c d");
        Check.due("behind one alone", Check.remark(reads("e4 (d4) {b} *", 2), 1), "b");
        Check.due("not to the other line", Check.remark(reads("e4 (d4) {b} *", 2), 2), "");
        Check.due("lines within lines", Check.remark(reads("e4 (d4 (c4) {b}) {c} *", 3), 2), "b");
        Check.due("lines within lines", Check.remark(reads("e4 (d4 (c4) {b}) {c} *", 3), 1), "c");
        fault(1, "e4 (^{a} d4) *");
        fault(1, "e4 (^;a\nd4) *");
        fault(1, "e4 ( ^{} d4) *");
        fault(1, "e4 (d4) (^{a} c4) *");
    }

    private static void remarkLimits() {
        String most = "x".repeat(200);
        reads("{" + most + "} e4 {" + most + "} (d4 ;" + most + "\n) *", 2);
        fault(8, "^{" + most + "x} *");
        fault(8, "^;" + most + "x\n *");
        fault(8, "^;" + most + "x");
        fault(8, "e4 ^{" + "\n".repeat(201) + "} *");
        fault(8, "e4 (d4 ^{" + most + "x}) *");
        fault(1, "{" + most + "x^");
        fault(1, ";" + most + "x^}\n*");
        fault(8, "{" + most + "} ^{x} *");
        fault(8, "{" + most + "} {} ^; \n *");
        reads("{" + most + "} {} ;\n *", 0);
        for (int first = 1; first <= 199; first += 66) {
            String one = "e4 {" + "a".repeat(first) + "} ";
            Check.due("with the space", reads(one + "{" + "b".repeat(199 - first) + "} *", 1).node(1, 5), first == 199 ? 199 : 200);
            fault(8, one + "^{" + "b".repeat(200 - first) + "} *");
            fault(8, one + "(d4) ^;" + "b".repeat(200 - first) + "\n *");
        }
        reads("e4 {" + "a".repeat(199) + "} {} *", 1);
        fault(8, "e4 {" + "a".repeat(199) + "} ^{b} *");
    }

    private static void otherLines() {
        fault(1, "e4 (^) *");
        fault(1, "e4 ( ^) *");
        fault(1, "e4 (^(d4)) *");
        fault(1, "e4 (^");
        fault(1, "e4 (d4^");
        fault(1, "e4 (d4 ^");
        fault(1, "e4 (d4 (c4) ^");
        fault(1, "e4 (d4) ^) *");
        fault(1, "e4 ^) *");
        fault(1, "^) *");
        fault(1, "^( *");
        fault(1, "e4 (1. d4) 1. ^(c4) *");
        MoveTexts x = reads("e4 (d4) (c4) {a} (b4) ;b\n (a4) *", 5);
        for (int node = 1; node <= 5; node++) {
            Check.due("parent", x.node(node, 0), 0);
            Check.due("next", x.node(node, 3), node < 5 ? node + 1 : MoveTexts.NONE);
        }
        MoveTexts y = reads("e4 e5 (c5 d4) (c6) d4 (Nf3 (Nc3 Nc6) Nc6) *", 10);
        int[] parents = {-1, 0, 1, 1, 3, 1, 2, 2, 2, 8, 7};
        for (int node = 0; node <= 10; node++) {
            Check.due("parent of " + node, y.node(node, 0), parents[node]);
        }
    }

    private static void otherLinesFromThePositionBefore() {
        String open = fen("r3k2r/8/8/3pP3/8/8/8/R3K2R w KQkq d6 0 9");
        reads(open + "Ke2 (exd6) (O-O) (O-O-O) (Rxa8+ Kd7 (Ke7) (Kf7)) Ke7 *", 9);
        reads(open + "exd6 (Ke2) (Rxh8+) O-O (O-O-O) *", 5);
        fault(4, open + "Ke2 O-O Rag1 (^O-O) *");
        fault(4, open + "Ke2 (Kf2 Rf8+ Kg2 (^exd6)) *");
        fault(4, "e4 (^e5) *");
        fault(4, "e4 e5 (^e4) *");
    }

    private static void openBrackets() {
        String six = "e4 (d4 (c4 (b4 (a4 (f4 (g4";
        reads(six + ")))))) *", 7);
        fault(8, six + " ^(h4))))))) *");
        fault(8, six + "^(");
        reads(six + ") (h4)))))) *", 8);
        reads(six + ")) (h4 (h3)))))) *", 9);
        fault(8, six + ")) (h4 (h3 ^(g3)))))) *");
        reads(six + ")))))) (h4 (h3 (g3 (f3 (d3 (c3)))))) *", 13);
        MoveTexts x = reads("e4 (d4 d5 (c5 c4 (c3 e6 (e5 a4 (a3 b6 (b5)))))) *", 12);
        Check.due("as deep as brackets", deep(x, 12), 6);
        fault(8, "e4 (d4 d5 (c5 c4 (c3 e6 (e5 a4 (a3 b6 (b5 h4 ^(h3))))))) *");
        reads("e4 (d4 d5 (c5 c4 (c3 e6 (e5 a4 (a3 b6 (b5 h4 h5)))))) *", 14);
    }

    private static int deep(MoveTexts x, int node) {
        int deep = 0;
        for (int on = node; on > 0; on = x.node(on, 0)) {
            deep += x.node(x.node(on, 0), 2) == on ? 0 : 1;
        }
        return deep;
    }

    private static void moveLimit() {
        StringBuilder shuffle = new StringBuilder();
        for (int i = 0; i < 299; i++) {
            shuffle.append(ROUND[i % 4]).append(' ');
        }
        reads(shuffle + "Ng8 *", 300);
        reads(shuffle + "(Nh4) *", 300);
        fault(8, shuffle + "Ng8 ^Nf3 *");
        fault(8, shuffle + "Ng8 (^Nh5) *");
        fault(8, shuffle + "(Nh4) ^Ng8 *");
        fault(8, shuffle + "(Nh4) (^Nd4) *");
        fault(8, shuffle + "Ng8 151. ^Nf3 *");
        fault(7, shuffle + "Ng8 ^150. Nf3 *");
        fault(4, shuffle + "Ng8 ^Nf4 *");
        fault(5, shuffle + "Ng8 ^Nf3+ *");
        fault(6, shuffle + "Ng8 (^Ng8) *");
        fault(8, shuffle + "Ng8 ^Nf3 ?");
        reads(shuffle + "Ng8 $1 {a} *", 300);
        fault(1, shuffle + "Ng8 (^");
        fault(1, shuffle + "Ng8 151. ^*");
    }

    private static void sameMoves() {
        fault(6, "e4 (^e4) *");
        fault(6, "e4 (^ee4) *");
        fault(6, "e4 (1. ^e4) *");
        fault(6, "e4 (d4) (^e4) *");
        fault(6, "e4 (d4) (^d4) *");
        fault(6, "e4 (d4 (^e4)) *");
        fault(6, "e4 (d4 (^d4)) *");
        fault(6, "e4 (d4 (c4)) (^c4) *");
        fault(6, "Nf3 (^Ng1f3) *");
        fault(6, "e4 e5 (c5) (^c5) *");
        reads("e4 e5 (c5) Nf3 (Nc3) *", 5);
        reads("e4 (d4 e5) e5 *", 4);
        fault(7, "e4 (^2. e4) *");
        fault(5, "e4 (^e4+) *");
        String becoming = fen("7k/P7/8/8/8/8/8/K7 w - - 0 1");
        reads(becoming + "a8=Q+ (a8=R+) (a8=B) (a8=N) *", 4);
        fault(6, becoming + "a8=Q+ (^a8=Q) *");
    }

    private static void fitting() {
        fault(4, "^Nd2 *");
        fault(4, "^Ke2 *");
        fault(4, "^e5 *");
        fault(4, "^xd5 *");
        fault(5, "^xe4 *");
        fault(5, "^Nxf3 *");
        fault(5, "^Nf3x *");
        fault(5, "^Nf3++ *");
        fault(5, "^ex4 *");
        fault(5, "e4 d5 ^ed5 *");
        fault(4, "e4 d5 ^d5 *");
        String two = fen("7k/8/8/8/8/1N3N2/8/K7 w - - 0 1");
        fault(4, two + "^Nd2 *");
        fault(4, two + "^Nxd2 *");
        fault(4, two + "^Nd2+ *");
        fault(5, two + "^Nbxd2 *");
        reads(two + "Nbd2 *", 1);
        fault(4, "f3 e5 g4 Qh4 ^a3 *");
        fault(5, "f3 e5 g4 ^Qh4+ *");
        reads("f3 e5 g4 Qh4# 0-1", 4);
    }

    private static void resultTag() {
        String[] signs = {"*", "1-0", "0-1", "1/2-1/2"};
        for (String told : signs) {
            for (String sign : signs) {
                String text = "[Result \"" + told + "\"] e4 ";
                if (told.equals(sign)) {
                    reads(text + sign, 1);
                } else {
                    fault(9, text + "^" + sign);
                    fault(9, text + "^" + sign + " ?");
                }
            }
        }
        for (String told : new String[] {"", " *", "* ", "1-", "1-00", "1/2", "?"}) {
            fault(9, "[Result \"" + told + "\"] ^*");
            fault(9, "[a\"\"][Result \"" + told + "\"][b\"\"] e4 ^1-0");
        }
        for (String name : new String[] {"result", "RESULT", "Results", "Resul", "xResult"}) {
            reads("[" + name + " \"1-0\"] *", 0);
        }
        fault(1, "[Result \"1-0\"] e4 ^");
        fault(1, "[Result \"1-0\"] e4 (d4 ^* ) *");
    }

    private static void firstFaultCounts() {
        fault(7, "^2. Nf9 *");
        fault(4, "^Nf9 $256 *");
        fault(8, "e4 ^$256 $");
        fault(8, "e4 ^$256 {");
        fault(1, "e4 $^ $256 *");
        fault(2, "^[abcdefghijklm\"" + "x".repeat(97) + "\"][");
        fault(3, "^" + fen("") + "[");
        fault(3, "[Result \"1-0\"]^" + fen("") + " *");
        fault(1, "[Result \"1-0\"] e4 ^, *");
        fault(8, "{" + "x".repeat(200) + "} ^{x} Nf9 *");
        fault(6, "e4 (^e4 $256) *");
        fault(1, "e4 ^, 2. Nf9 *");
    }
}
