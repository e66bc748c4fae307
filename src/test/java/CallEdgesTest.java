/** The edges that promises 1 to 24 name: just inside, just outside, and that a refused call changes nothing. */
public final class CallEdgesTest {
    private static final Class<?> INDEX = IndexOutOfBoundsException.class;
    private static final Class<?> ARGUMENT = IllegalArgumentException.class;
    private static final Class<?> STATE = IllegalStateException.class;
    private static final Class<?> UNSUPPORTED = UnsupportedOperationException.class;
    private static final int LEAST = Integer.MIN_VALUE;
    private static final int MOST = Integer.MAX_VALUE;
    private static final String[] ROUND = {"g1f3", "g8f6", "f3g1", "f6g8"};

    public static void main(String[] args) {
        promise1();
        promise2();
        promise3();
        promise4();
        promise5();
        promise6();
        promises7And8();
        promises9And10();
        promises11And12();
        promises13And14();
        promises15And16();
        promise17Legal();
        promise17Full();
        promise17Deep();
        promise18();
        promise19();
        promise20();
        promise20Deep();
        promises21And22();
        promises23And24();
        Check.close("CallEdgesTest");
    }

    /** HERE behind 1. e4 c5, with tags, marks, remarks, something in OUT and a text. */
    private static MoveTexts rich() {
        MoveTexts x = Check.game("[Event \"A \\\"day\\\"\"][Result \"1-0\"]{begin} 1. e4 $7 $255 {first} e5 "
            + "(1... c5 $1 $2 $3 $4 {here} 2. Nf3) (1... e6) 2. Nc3 1-0");
        x.go(3);
        x.signs(Check.move("f1b5"));
        Check.type(x, "Nf3");
        return x;
    }

    private static MoveTexts typed(int length) {
        MoveTexts x = new MoveTexts();
        Check.type(x, " ".repeat(length));
        return x;
    }

    private static MoveTexts withText(String text) {
        MoveTexts x = rich();
        x.cut(0);
        Check.type(x, text);
        return x;
    }

    private static MoveTexts shuffled(int moves) {
        MoveTexts x = new MoveTexts();
        for (int i = 0; i < moves; i++) {
            x.add(Check.move(ROUND[i % 4]));
        }
        return x;
    }

    private static void promise1() {
        MoveTexts x = new MoveTexts();
        Check.due("no text", Check.textLength(x), 0);
        Check.due("no signs in an empty text", x.find(), MoveTexts.NONE);
        Check.due("no game in an empty text", x.read(), 10000);
        Check.due("no moves", x.node(0, 2), MoveTexts.NONE);
        Check.due("20 moves", Check.moves(x).split(" ").length, 20);
        Check.due("nothing in OUT", x.out(0), 0);
        Check.throwsDue("no node 1", INDEX, () -> x.node(1, 0));
        Check.throwsDue("no mark", INDEX, () -> x.mark(0, 0));
        Check.throwsDue("no remark", INDEX, () -> x.remark(0, 0));
        Check.throwsDue("no tag", INDEX, () -> x.tag(0, true, 0));
        Check.due("the usual first position", Check.all(new MoveTexts()),
            Check.all(withoutTags("rnbqkbnr/pppppppp/8/8/8/8/PPPPPPPP/RNBQKBNR w KQkq - 0 1")));
    }

    /** A new object, behind a game from that position was read and taken back by one without tags. */
    private static MoveTexts withoutTags(String fen) {
        MoveTexts x = Check.position(fen);
        Check.due("read", Check.read(x, "*"), 0);
        return x;
    }

    private static void promise2() {
        long spaces = 0x2020202020202020L;
        for (int n : new int[] {1, 2, 7, 8}) {
            MoveTexts x = new MoveTexts();
            Check.due("type " + n, x.type(spaces, n), true);
            Check.due("so many came", Check.textLength(x), n);
        }
        for (int n : new int[] {0, 9, -1, 16, LEAST, MOST}) {
            Check.unchanged("type " + n, 0, () -> rich(), x -> x.type(spaces, n) ? 1 : 0);
        }
        for (int n = 1; n <= 8; n++) {
            int last = n;
            MoveTexts fits = typed(2000 - n);
            Check.due("up to 2000", fits.type(spaces, n), true);
            Check.due("2000", Check.textLength(fits), 2000);
            Check.unchanged("2001", 0, () -> typed(2001 - last), x -> x.type(spaces, last) ? 1 : 0);
        }
        for (int place = 0; place < 8; place++) {
            long others = spaces & ~(255L << 8 * place);
            for (int c : new int[] {0, 9, 11, 13, 31, 127, 128, 138, 160, 254, 255}) {
                long w = others | (long) c << 8 * place;
                Check.unchanged("character " + c + " at " + place, 0, () -> rich(), x -> x.type(w, 8) ? 1 : 0);
                Check.due("what is above n is not looked at", place == 0 || new MoveTexts().type(w, place), true);
            }
            for (int c : new int[] {10, 32, 33, 125, 126}) {
                Check.due("character " + c, new MoveTexts().type(others | (long) c << 8 * place, 8), true);
            }
        }
    }

    private static void promise3() {
        for (int n : new int[] {4, -1, 2000, 2001, LEAST, MOST}) {
            Check.unchanged("cut " + n + " of three", 0, () -> rich(), x -> x.cut(n) ? 1 : 0);
        }
        Check.unchanged("cut 3 of three", 1, () -> rich(), x -> x.cut(3) ? 1 : 0);
        Check.unchanged("cut 2000 of 2000", 1, () -> typed(2000), x -> x.cut(2000) ? 1 : 0);
        Check.unchanged("cut 2001 of 2000", 0, () -> typed(2000), x -> x.cut(2001) ? 1 : 0);
        Check.unchanged("cut 0 of none", 1, () -> new MoveTexts(), x -> x.cut(0) ? 1 : 0);
        Check.unchanged("cut 1 of none", 0, () -> new MoveTexts(), x -> x.cut(1) ? 1 : 0);
        MoveTexts x = new MoveTexts();
        Check.type(x, "Nf3x");
        Check.due("cut", x.cut(3), true);
        Check.due("the first three", x.find(), Check.move("g1f3"));
        Check.due("what was cut does not come back", x.cut(4), false);
    }

    /** A text for each kind of fault. */
    private static void promise4() {
        String[] texts = {"e4 d5 1-0 ?", "[Event \"1\"][Event \"2\"]*", "e4 [FEN", "[FEN \"\"]*", "1. c4 Nf5 *", "1. c4 Nxf6 *", "c4 (c4) *",
            "c4 2. e5 *", "c4 $1 $2 $3 $4 $5 *", "[Result \"*\"] c4 1-0", "{remark} {" + "x".repeat(194) + "} *", ""};
        int[] faults = {10010, 20011, 10003, 30000, 40006, 50006, 60004, 70003, 80015, 90016, 80009, 10000};
        for (int i = 0; i < texts.length; i++) {
            String text = texts[i];
            Check.unchanged("read of <" + text + ">", faults[i], () -> withText(text), x -> x.read());
        }
        MoveTexts x = withText("[a \"b\"] c4 0-1");
        Check.due("read", x.read(), 0);
        Check.due("the text is empty then", Check.textLength(x), 0);
        Check.due("HERE node 0", x.here(), 0);
        Check.due("OUT stays", Check.out(x), "Bb5");
        Check.due("in place of the one before", Check.written(x), "[a \"b\"]\n\n1. c4 0-1");
        Check.due("so it is refused again", x.read(), 10000);
        MoveTexts most = new MoveTexts();
        Check.due("a text of 2000", Check.read(most, "e4" + " ".repeat(1997) + "*"), 0);
        Check.due("the place may be 2000", Check.read(most, " ".repeat(2000)), 12000);
        Check.due("the last place", Check.read(most, " ".repeat(1999) + "?"), 11999);
    }

    private static void promise5() {
        Check.unchanged("found", Check.move("g1f3"), () -> rich(), x -> x.find());
        String[] none = {"", " Nf3", "Nf3 ", "Nf3\n", "\nNf3", "N f3", "Nf6", "Nf3!", "Nf3*", "1.Nf3", "Nf3 Nc6", "{}", "(Nf3)", "$1", "1-0"};
        for (String text : none) {
            Check.unchanged("find of <" + text + ">", MoveTexts.NONE, () -> withText(text), x -> x.find());
        }
        for (String text : new String[] {"Nf3+", "Nf3#", "Nxf3", "Nf3" + "+".repeat(1997), "x".repeat(1997) + "Nf3"}) {
            Check.unchanged("find of " + text.length(), -2, () -> withText(text), x -> x.find());
        }
        for (String text : new String[] {"N".repeat(2000), "Nf3" + "0".repeat(1997), "Nf3" + "-".repeat(1997)}) {
            Check.unchanged("find of " + text.length(), MoveTexts.NONE, () -> withText(text), x -> x.find());
        }
        MoveTexts x = rich();
        x.go(1);
        Check.due("HERE it is black's move", x.find(), MoveTexts.NONE);
        x.go(0);
        Check.due("HERE it is white's again", x.find(), Check.move("g1f3"));
    }

    private static void promise6() {
        MoveTexts x = rich();
        int length = x.write();
        String once = Check.out(x);
        Check.due("how long it is", length, once.length());
        Check.due("the last character", x.out(length - 1), '0');
        Check.due("none behind it", x.out(length), 0);
        Check.due("HERE stays", x.here(), 3);
        Check.due("the text stays", x.find(), Check.move("g1f3"));
        x.add(Check.move("b1c3"));
        x.go(0);
        x.cut(0);
        Check.type(x, "?");
        x.read();
        x.find();
        x.say();
        Check.throwsDue("refused", ARGUMENT, () -> x.signs(0));
        Check.due("OUT stays till something else goes into it", Check.out(x), once);
        Check.due("read", Check.read(x, "*"), 0);
        Check.due("read, too, leaves OUT", Check.out(x), once);
        Check.due("the shortest", x.write(), 1);
        Check.due("nothing of the longer one is left", x.out(1), 0);
        StringBuilder due = new StringBuilder();
        String[] moves = {"Nf3", "Nf6", "Ng1", "Ng8"};
        for (int i = 0; i < 300; i++) {
            due.append(i % 2 == 0 ? i / 2 + 1 + ". " : "").append(moves[i % 4]).append(' ');
        }
        Check.due("300 moves", Check.written(shuffled(300)), due + "*");
    }

    private static void promises7And8() {
        int[] wrong = {-1, 0, Check.move("e2e4"), Check.move("c5c4"), Check.move("g1g3"), Check.move("g1f3", 5), Check.move("e1g1"),
            Check.move("g1f3") + 8 * 4096, Check.move("g1f3") + (1 << 18), Check.move("g1f3") | LEAST, Check.move("g1f3") - 4096, LEAST, MOST};
        for (int move : wrong) {
            Check.refused("signs(" + move + ")", ARGUMENT, () -> rich(), x -> x.signs(move));
        }
        MoveTexts x = rich();
        x.write();
        Check.due("how long they are", x.signs(Check.move("g1f3")), 3);
        Check.due("first", x.out(0), 'N');
        Check.due("last", x.out(2), '3');
        for (int i : new int[] {3, 4, 100, -1, LEAST, MOST}) {
            Check.due("out(" + i + ")", x.out(i), 0);
        }
        MoveTexts pawn = Check.position("7k/P7/8/8/8/8/8/K7 w - - 0 1");
        for (int m = -1; m <= 8; m++) {
            int move = Check.move("a7a8", m);
            if (m < 2 || m > 5) {
                Check.throwsDue("becomes " + m, ARGUMENT, () -> pawn.signs(move));
            } else {
                Check.due("becomes " + m, Check.signs(pawn, move), "a8=" + "NBRQ".charAt(m - 2) + (m > 3 ? "+" : ""));
            }
        }
    }

    private static void promises9And10() {
        Check.due("none", new MoveTexts().nodes(), 0);
        MoveTexts full = shuffled(300);
        Check.due("300", full.nodes(), 300);
        Check.due("parent of the greatest", full.node(300, 0), 299);
        Check.due("it has no child", full.node(300, 2), MoveTexts.NONE);
        Check.throwsDue("no node 301", INDEX, () -> full.node(301, 0));
        for (int what = 0; what <= 5; what++) {
            int due = what < 4 ? MoveTexts.NONE : 0;
            Check.due("node 0 of a new object", new MoveTexts().node(0, what), due);
        }
        int[][] wrong = {{-1, 0}, {7, 0}, {301, 0}, {LEAST, 0}, {MOST, 0}, {0, -1}, {0, 6}, {6, 6}, {3, LEAST}, {3, MOST}, {7, 6}, {-1, -1}};
        for (int[] pair : wrong) {
            Check.refused("node(" + pair[0] + ", " + pair[1] + ")", INDEX, () -> rich(), x -> x.node(pair[0], pair[1]));
        }
        Check.due("the greatest", rich().node(6, 5), 0);
        MoveTexts x = rich();
        x.go(6);
        x.add(Check.move("b8c6"));
        Check.due("one more", x.node(7, 0), 6);
    }

    private static void promises11And12() {
        for (int k = 0; k < 4; k++) {
            Check.due("mark " + k, rich().mark(3, k), k + 1);
        }
        int[][] noMark = {{3, 4}, {3, -1}, {1, 2}, {2, 0}, {0, 0}, {0, -1}, {7, 0}, {-1, 0}, {3, LEAST}, {3, MOST}, {LEAST, 0}, {MOST, 0}};
        for (int[] pair : noMark) {
            Check.refused("mark(" + pair[0] + ", " + pair[1] + ")", INDEX, () -> rich(), x -> x.mark(pair[0], pair[1]));
        }
        Check.due("the first character", rich().remark(0, 0), 'b');
        Check.due("the last one", rich().remark(3, 3), 'e');
        int[][] noCharacter = {{3, 4}, {3, -1}, {0, 5}, {2, 0}, {7, 0}, {-1, 0}, {3, LEAST}, {3, MOST}, {LEAST, 0}, {MOST, 0}};
        for (int[] pair : noCharacter) {
            Check.refused("remark(" + pair[0] + ", " + pair[1] + ")", INDEX, () -> rich(), x -> x.remark(pair[0], pair[1]));
        }
        MoveTexts longest = Check.game("{" + "a".repeat(199) + "b} *");
        Check.due("character 199", longest.remark(0, 199), 'b');
        Check.throwsDue("character 200", INDEX, () -> longest.remark(0, 200));
    }

    private static long go(MoveTexts x, int node) {
        x.go(node);
        return x.here();
    }

    private static void promises13And14() {
        Check.due("node 0", go(rich(), 0), 0);
        Check.due("the greatest", go(rich(), 6), 6);
        for (int node : new int[] {-1, 7, 300, 301, LEAST, MOST}) {
            Check.refused("go(" + node + ")", INDEX, () -> rich(), x -> go(x, node));
        }
        MoveTexts full = shuffled(300);
        Check.due("300", go(full, 300), 300);
        Check.due("the position behind all 300", Check.state(full) + Check.moves(full), Check.state(shuffled(300)) + Check.moves(shuffled(300)));
        Check.due("the first one", go(full, 1), 1);
        Check.due("its knight", full.man(Check.square("f3")), 2);
        Check.throwsDue("301", INDEX, () -> go(full, 301));
        Check.throwsDue("there is only node 0", INDEX, () -> go(new MoveTexts(), 1));
        Check.unchanged("where it is already", 3, () -> rich(), x -> go(x, 3));
        MoveTexts x = rich();
        Check.due("read", Check.read(x, "e4 *"), 0);
        Check.throwsDue("a node of the game before", INDEX, () -> go(x, 2));
        Check.due("text and OUT stay", Check.out(x), "Bb5");
    }

    private static void promises15And16() {
        Check.due("a1", rich().man(0), 4);
        Check.due("h8", rich().man(63), 12);
        for (int square : new int[] {-1, 64, 65, LEAST, MOST}) {
            Check.refused("man(" + square + ")", INDEX, () -> rich(), x -> x.man(square));
        }
        count("R6R/3Q4/1Q4Q1/4Q3/2Q4Q/Q4Q2/pp1Q4/kBNN1KB1 w - - 0 1", 218);
        count("7k/8/8/8/8/8/8/K7 w - - 0 1", 3);
        count("1r5k/8/8/8/8/8/8/K7 w - - 0 1", 1);
        count("7k/8/8/8/8/8/7r/K6r w - - 0 1", 0);
        count("7k/8/8/8/8/1q6/8/K7 w - - 0 1", 0);
        for (int k : new int[] {-1, 100, LEAST, MOST}) {
            Check.unchanged("move(" + k + ")", MoveTexts.NONE, () -> rich(), x -> x.move(k));
        }
    }

    private static void count(String fen, int due) {
        MoveTexts x = Check.position(fen);
        int before = MoveTexts.NONE;
        for (int k = 0; k < due; k++) {
            int move = x.move(k);
            Check.due("there is move " + k + " of " + fen, move != MoveTexts.NONE, true);
            Check.due("in order", inOrder(before) < inOrder(move), true);
            before = move;
        }
        Check.due("behind the last one of " + fen, x.move(due), MoveTexts.NONE);
    }

    /** By from, then to, then m. */
    private static int inOrder(int move) {
        return move == MoveTexts.NONE ? -1 : (move & 63) * 4096 + (move >> 6 & 63) * 64 + (move >> 12);
    }

    private static void promise17Legal() {
        int[] wrong = {-1, 0, Check.move("e2e4"), Check.move("c5c4"), Check.move("g1g3"), Check.move("g1f3", 2), Check.move("e1g1"),
            Check.move("g1f3") + 8 * 4096, Check.move("g1f3") + (1 << 18), Check.move("g1f3") | LEAST, Check.move("g1f3") - 4096, LEAST, MOST};
        for (int move : wrong) {
            Check.refused("add(" + move + ")", ARGUMENT, () -> rich(), x -> x.add(move));
        }
        MoveTexts x = rich();
        Check.due("one that is there already", x.add(Check.move("g1f3")), 4);
        Check.due("HERE", x.here(), 4);
        Check.due("no new one", x.nodes(), 6);
        x.go(3);
        Check.due("a new one", x.add(Check.move("b1c3")), 7);
        Check.due("HERE", x.here(), 7);
        Check.due("behind the others", x.node(4, 3), 7);
        Check.due("the last one", x.node(7, 3), MoveTexts.NONE);
        Check.due("text and OUT stay", Check.out(x), "Bb5");
        Check.due("text and OUT stay", Check.textLength(x), 3);
        MoveTexts mated = Check.game("f3 e5 g4 Qh4# *");
        mated.go(4);
        Check.throwsDue("mated", ARGUMENT, () -> mated.add(Check.move("e1f2")));
    }

    private static void promise17Full() {
        Check.due("the 300th", shuffled(299).add(Check.move(ROUND[3])), 300);
        Check.refused("the 301st", UNSUPPORTED, () -> shuffled(300), x -> x.add(Check.move("g1f3")));
        Check.refused("not legal comes first", ARGUMENT, () -> shuffled(300), x -> x.add(Check.move("g1g3")));
        MoveTexts x = shuffled(300);
        x.go(0);
        Check.due("one that is there already", x.add(Check.move("g1f3")), 1);
        Check.due("the last of them", go(x, 299), 299);
        Check.due("one that is there already", x.add(Check.move("f6g8")), 300);
        MoveTexts other = shuffled(299);
        other.go(0);
        Check.due("the 300th as an other line", other.add(Check.move("e2e4")), 300);
        other.go(0);
        Check.throwsDue("the 301st as an other line", UNSUPPORTED, () -> other.add(Check.move("d2d4")));
    }

    /** HERE the last of so many nodes, each of an other line for a child of the one before. */
    private static MoveTexts deep(int levels) {
        String[] goes = {"a2a3", "a7a6", "b2b3", "b7b6", "c2c3", "c7c6", "d2d3"};
        String[] others = {"h2h3", "h7h6", "g2g3", "g7g6", "f2f3", "f7f6", "e2e3"};
        MoveTexts x = new MoveTexts();
        for (int i = 0; i < levels; i++) {
            int parent = x.here();
            x.add(Check.move(goes[i]));
            x.go(parent);
            x.add(Check.move(others[i]));
        }
        return x;
    }

    private static void promise17Deep() {
        Check.due("six deep", deep(6).nodes(), 12);
        MoveTexts x = deep(6);
        Check.due("what goes on is as deep", x.add(Check.move("d2d3")), 13);
        x.go(12);
        Check.due("one that is there already", x.add(Check.move("d2d3")), 13);
        Check.refused("seven deep", UNSUPPORTED, () -> deepGoingOn(), y -> y.add(Check.move("e2e3")));
        Check.refused("not legal comes first", ARGUMENT, () -> deepGoingOn(), y -> y.add(Check.move("e2e5")));
        MoveTexts below = deepGoingOn();
        below.add(Check.move("d2d3"));
        Check.due("further on", below.add(Check.move("d7d6")), 14);
        below.go(13);
        Check.throwsDue("seven deep further on", UNSUPPORTED, () -> below.add(Check.move("e7e6")));
        below.go(10);
        Check.due("a third one beside it is six deep", below.add(Check.move("e7e6")), 15);
    }

    /** HERE six deep, where one goes on already. */
    private static MoveTexts deepGoingOn() {
        MoveTexts x = deep(6);
        x.add(Check.move("d2d3"));
        x.go(12);
        return x;
    }

    private static void promise18() {
        MoveTexts x = rich();
        x.go(4);
        int[] marks = {0, 255, 1, 254};
        for (int k = 0; k < 4; k++) {
            Check.due("how many there are", x.addMark(marks[k]), k + 1);
            Check.due("mark", x.mark(4, k), marks[k]);
        }
        Check.refused("a fifth", STATE, () -> rich(), y -> y.addMark(0));
        for (int mark : new int[] {-1, 256, LEAST, MOST}) {
            Check.refused("mark " + mark + ", which is named first", ARGUMENT, () -> rich(), y -> y.addMark(mark));
            Check.refused("mark " + mark + " at node 0", ARGUMENT, () -> at(0), y -> y.addMark(mark));
            Check.refused("mark " + mark + " where there is room", ARGUMENT, () -> at(4), y -> y.addMark(mark));
        }
        for (int mark : new int[] {0, 1, 255}) {
            Check.refused("node 0", STATE, () -> at(0), y -> y.addMark(mark));
        }
        Check.due("the third", at(1).addMark(9), 3);
    }

    private static MoveTexts at(int node) {
        MoveTexts x = rich();
        x.go(node);
        return x;
    }

    private static void promise19() {
        String most = " ~" + "{".repeat(198);
        for (String text : new String[] {"", " ", "~", "{", ";\"", "x".repeat(199), most}) {
            for (int node : new int[] {0, 1, 3, 6}) {
                MoveTexts x = withText(text);
                x.go(node);
                Check.due("how long it is", x.say(), text.length());
                Check.due("in place of the one before", Check.remark(x, node), text);
                Check.due("the text is empty then", Check.textLength(x), 0);
            }
        }
        for (String text : new String[] {"x".repeat(201), "x".repeat(2000), "}", "\n", "x}", "}x", "x\n", "\nx", "x".repeat(199) + "}",
            "x".repeat(199) + "\n", "x".repeat(200) + "}"}) {
            Check.refused("say of " + text.length(), ARGUMENT, () -> withText(text), x -> x.say());
        }
        MoveTexts x = rich();
        x.say();
        Check.due("others stay", Check.remark(x, 0) + Check.remark(x, 1), "beginfirst");
        Check.due("OUT stays", Check.out(x), "Bb5");
    }

    private static void promise20() {
        Check.refused("node 0", STATE, () -> at(0), x -> x.lead() ? 1 : 0);
        Check.refused("node 0 of a new object", STATE, () -> new MoveTexts(), x -> x.lead() ? 1 : 0);
        for (int node : new int[] {1, 2, 4, 6}) {
            Check.unchanged("it goes on already", 0, () -> at(node), x -> x.lead() ? 1 : 0);
        }
        MoveTexts x = Check.game("e4 (d4) (c4) (b4) (a4) *");
        int[][] orders = {{4, 4, 1, 2, 3, 5}, {5, 5, 4, 1, 2, 3}, {4, 4, 5, 1, 2, 3}, {1, 1, 4, 5, 2, 3}, {3, 3, 1, 4, 5, 2}};
        for (int[] order : orders) {
            x.go(order[0]);
            Check.due("it did not go on", x.lead(), true);
            Check.due("it does now", x.lead(), false);
            Check.due("HERE stays", x.here(), order[0]);
            int node = x.node(0, 2);
            for (int k = 1; k < order.length; k++) {
                Check.due("the others keep their order", node, order[k]);
                node = x.node(node, 3);
            }
            Check.due("no more", node, MoveTexts.NONE);
        }
        MoveTexts full = shuffled(299);
        full.go(0);
        full.add(Check.move("e2e4"));
        Check.due("in a full tree", full.lead(), true);
        Check.due("it goes on", full.node(0, 2), 300);
        full.go(1);
        Check.due("and the other again", full.lead(), true);
    }

    /** Node 2 of deep(6) begins what is six deep, node 1 is beside it. */
    private static void promise20Deep() {
        MoveTexts x = deep(6);
        x.go(2);
        Check.due("one less deep", x.lead(), true);
        x.go(1);
        Check.due("six deep again", x.lead(), true);
        Check.refused("seven deep", STATE, () -> oneMore(), y -> y.lead() ? 1 : 0);
        MoveTexts y = oneMore();
        y.go(14);
        Check.due("the deepest one itself may lead", y.lead(), true);
        y.go(13);
        Check.due("then the other may again", y.lead(), true);
    }

    /** HERE node 1, an other line now, beside a line that is six deep without it. */
    private static MoveTexts oneMore() {
        MoveTexts x = deep(6);
        x.go(2);
        x.lead();
        x.go(12);
        x.add(Check.move("d2d3"));
        x.go(12);
        x.add(Check.move("e2e3"));
        x.go(1);
        return x;
    }

    private static long end(MoveTexts x, int result) {
        x.end(result);
        return x.result();
    }

    private static void promises21And22() {
        for (int result = 0; result <= 3; result++) {
            Check.due("end", end(rich(), result), result);
        }
        for (int result : new int[] {-1, 4, LEAST, MOST}) {
            Check.refused("end(" + result + ")", ARGUMENT, () -> rich(), x -> end(x, result));
        }
        MoveTexts x = rich();
        x.end(2);
        Check.due("the tag Result is not looked at", Check.tag(x, 1, true), "1-0");
        String written = Check.written(x);
        Check.due("what is written is refused", Check.read(x, written), 90000 + written.length() - 3);
        x.end(1);
        Check.due("and not refused", Check.read(x, Check.written(x)), 0);
    }

    private static void promises23And24() {
        Check.due("none", new MoveTexts().tags(), 0);
        StringBuilder eight = new StringBuilder();
        for (int k = 0; k < 8; k++) {
            eight.append("[n").append(k).append("\"v").append(k).append("\"]");
        }
        MoveTexts x = Check.game(eight + "*");
        Check.due("eight", x.tags(), 8);
        Check.due("the last one", Check.tag(x, 7, false) + Check.tag(x, 7, true), "n7v7");
        Check.throwsDue("a ninth", INDEX, () -> x.tag(8, false, 0));
        MoveTexts most = Check.game("[abcdefghijkl \"" + "v".repeat(95) + "w\"][e \"\"]*");
        Check.due("the last of a name", most.tag(0, false, 11), 'l');
        Check.due("behind it", most.tag(0, false, 12), 0);
        Check.due("the last of a value", most.tag(0, true, 95), 'w');
        Check.due("behind it", most.tag(0, true, 96), 0);
        Check.due("an empty value", most.tag(1, true, 0), 0);
        Check.due("far behind", most.tag(1, false, MOST), 0);
        int[][] wrong = {{-1, 0}, {2, 0}, {LEAST, 0}, {MOST, 0}, {0, -1}, {1, LEAST}, {2, -1}, {-1, -1}};
        for (int[] pair : wrong) {
            Check.refused("tag(" + pair[0] + ", " + pair[1] + ")", INDEX, () -> rich(), y -> y.tag(pair[0], true, pair[1]));
            Check.refused("tag(" + pair[0] + ", " + pair[1] + ")", INDEX, () -> rich(), y -> y.tag(pair[0], false, pair[1]));
        }
    }
}
