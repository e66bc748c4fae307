import java.util.ArrayList;
import java.util.List;

/** Promises 15 and 16: man and move; with them positions, their texts, and what is legal. */
public final class PositionTest {
    private static final String KINGS = "4k3/8/8/8/8/8/8/4K3 w - - 0 1";

    public static void main(String[] args) {
        men();
        squaresThatAreNone();
        movesInOrder();
        knownCounts();
        castling();
        rightsAreLost();
        passing();
        becomingAnother();
        soundTexts();
        textsNotWrittenSo();
        textsOfNoPosition();
        Check.close("PositionTest");
    }

    private static void men() {
        MoveTexts x = Check.position("r1bqk2r/1P6/n7/8/8/5N2/p7/R3K2R w KQkq - 12 34");
        Object[][] due = {{"a8", 12}, {"c8", 11}, {"d8", 13}, {"e8", 14}, {"h8", 12}, {"b7", 1}, {"a6", 10},
            {"f3", 2}, {"a2", 9}, {"a1", 4}, {"e1", 6}, {"h1", 4}, {"b1", 0}, {"h7", 0}, {"e4", 0}};
        for (Object[] pair : due) {
            Check.due("man on " + pair[0], x.man(Check.square((String) pair[0])), (Integer) pair[1]);
        }
        x.add(Check.move("b7c8", 2));
        Check.due("behind the move", x.man(Check.square("c8")), 2);
        Check.due("behind the move", x.man(Check.square("b7")), 0);
        x.go(0);
        Check.due("before the move", x.man(Check.square("c8")), 11);
    }

    private static void squaresThatAreNone() {
        MoveTexts x = new MoveTexts();
        for (int square : new int[] {-1, 64, Integer.MIN_VALUE, Integer.MAX_VALUE}) {
            Check.throwsDue("man(" + square + ")", IndexOutOfBoundsException.class, () -> x.man(square));
        }
        Check.due("man(63)", x.man(63), 12);
    }

    private static List<Integer> moves(MoveTexts x) {
        List<Integer> all = new ArrayList<>();
        for (int k = 0; x.move(k) != MoveTexts.NONE; k++) {
            all.add(x.move(k));
        }
        return all;
    }

    private static boolean has(String fen, String squares) {
        return moves(Check.position(fen)).contains(Check.move(squares));
    }

    private static void movesInOrder() {
        MoveTexts x = Check.position("7k/1P6/8/8/8/8/8/K1N5 w - - 0 1");
        List<Integer> due = new ArrayList<>();
        for (String squares : new String[] {"a1b1", "a1a2", "a1b2", "c1e2", "c1b3", "c1d3", "c1a2"}) {
            due.add(Check.move(squares));
        }
        due.sort((a, b) -> (a & 63) != (b & 63) ? (a & 63) - (b & 63) : a - b);
        for (int becomes = 2; becomes <= 5; becomes++) {
            due.add(Check.move("b7b8", becomes));
        }
        Check.due("moves", moves(x).toString(), due.toString());
        for (int k : new int[] {-1, due.size(), due.size() + 1, Integer.MIN_VALUE, Integer.MAX_VALUE}) {
            Check.due("move(" + k + ")", x.move(k), MoveTexts.NONE);
        }
        Check.due("mated", Check.position("7k/6Q1/6K1/8/8/8/8/8 b - - 0 1").move(0), MoveTexts.NONE);
        Check.due("no move", Check.position("7k/5Q2/6K1/8/8/8/8/8 b - - 0 1").move(0), MoveTexts.NONE);
    }

    /** How many ways there are to play so many moves, from positions for which this is well known. */
    private static void knownCounts() {
        count("rnbqkbnr/pppppppp/8/8/8/8/PPPPPPPP/RNBQKBNR w KQkq - 0 1", 20, 400);
        count("r3k2r/p1ppqpb1/bn2pnp1/3PN3/1p2P3/2N2Q1p/PPPBBPPP/R3K2R w KQkq - 0 1", 48, 2039);
        count("8/2p5/3p4/KP5r/1R3p1k/8/4P1P1/8 w - - 0 1", 14, 191, 2812);
        count("r3k2r/Pppp1ppp/1b3nbN/nP6/BBP1P3/q4N2/Pp1P2PP/R2Q1RK1 w kq - 0 1", 6, 264);
        count("r2q1rk1/pP1p2pp/Q4n2/bbp1p3/Np6/1B3NBn/pPPP1PPP/R3K2R b KQ - 0 1", 6, 264);
        count("rnbq1k1r/pp1Pbppp/2p5/8/2B5/8/PPP1NnPP/RNBQK2R w KQ - 1 8", 44, 1486);
        count("r4rk1/1pp1qppp/p1np1n2/2b1p1B1/2B1P1b1/P1NP1N2/1PP1QPPP/R4RK1 w - - 0 10", 46, 2079);
    }

    private static void count(String fen, int... due) {
        for (int depth = 1; depth <= due.length; depth++) {
            Check.due("ways to play " + depth + " from " + fen, ways(fen, new ArrayList<>(), depth), due[depth - 1]);
        }
    }

    private static long ways(String fen, List<Integer> played, int depth) {
        MoveTexts x = Check.position(fen);
        for (int move : played) {
            x.add(move);
        }
        List<Integer> next = moves(x);
        if (depth == 1) {
            return next.size();
        }
        long all = 0;
        for (int move : next) {
            List<Integer> more = new ArrayList<>(played);
            more.add(move);
            all += ways(fen, more, depth - 1);
        }
        return all;
    }

    private static void castling() {
        String open = "r3k2r/8/8/8/8/8/8/R3K2R w KQkq - 0 1";
        Check.due("short", has(open, "e1g1"), true);
        Check.due("long", has(open, "e1c1"), true);
        Check.due("without the right", has(open.replace("KQkq", "Qkq"), "e1g1"), false);
        Check.due("without the right", has(open.replace("KQkq", "Kkq"), "e1c1"), false);
        Check.due("black short", has(open.replace(" w ", " b "), "e8g8"), true);
        Check.due("black long", has(open.replace(" w ", " b "), "e8c8"), true);
        Check.due("black without the right", has("r3k2r/8/8/8/8/8/8/R3K2R b KQq - 0 1", "e8g8"), false);
        Check.due("a man between", has("4k3/8/8/8/8/8/8/RN2K2R w KQ - 0 1", "e1c1"), false);
        Check.due("a man between", has("4k3/8/8/8/8/8/8/R1B1K2R w KQ - 0 1", "e1c1"), false);
        Check.due("a man between", has("4k3/8/8/8/8/8/8/R2QK2R w KQ - 0 1", "e1c1"), false);
        Check.due("a man between", has("4k3/8/8/8/8/8/8/R3K1NR w KQ - 0 1", "e1g1"), false);
        Check.due("the other side is not between", has("4k3/8/8/8/8/8/8/RNBQK2R w KQ - 0 1", "e1g1"), true);
        Check.due("a man of the other side", has("4k3/8/8/8/8/8/8/R1b1K2R w KQ - 0 1", "e1c1"), false);
        Check.due("a man of the other side", has("4k3/8/8/8/8/8/8/R3K1nR w KQ - 0 1", "e1g1"), false);
        Check.due("black in check", has("r3k2r/8/8/8/8/8/4R3/4K3 b kq - 0 1", "e8g8"), false);
        Check.due("black through check", has("r3k2r/8/8/8/8/8/5R2/4K3 b kq - 0 1", "e8g8"), false);
        Check.due("black the other way", has("r3k2r/8/8/8/8/8/5R2/4K3 b kq - 0 1", "e8c8"), true);
        Check.due("from the usual first position", Check.game("e4 e5 Nf3 Nf6 Be2 Be7 O-O O-O *").nodes(), 8);
        Check.due("from there, too", Check.game("d4 d5 Nc3 Nc6 Be3 Be6 Qd2 Qd7 O-O-O O-O-O *").nodes(), 10);
        Check.due("a man where it passes", has("4k3/8/8/8/8/8/8/R3KB1R w KQ - 0 1", "e1g1"), false);
        Check.due("in check", has("4r1k1/8/8/8/8/8/8/R3K2R w KQ - 0 1", "e1g1"), false);
        Check.due("through check", has("5rk1/8/8/8/8/8/8/R3K2R w KQ - 0 1", "e1g1"), false);
        Check.due("the other way", has("5rk1/8/8/8/8/8/8/R3K2R w KQ - 0 1", "e1c1"), true);
        Check.due("into check", has("1k4r1/8/8/8/8/8/8/R3K2R w KQ - 0 1", "e1g1"), false);
        Check.due("the rook may be attacked", has("7r/6k1/8/8/8/8/8/R3K2R w KQ - 0 1", "e1g1"), true);
        Check.due("b1 may be attacked", has("1rk5/8/8/8/8/8/8/R3K2R w KQ - 0 1", "e1c1"), true);
        Check.due("d1 may not", has("2kr4/8/8/8/8/8/8/R3K2R w KQ - 0 1", "e1c1"), false);
        MoveTexts x = Check.position(open);
        x.add(Check.move("e1c1"));
        Check.due("rook", x.man(Check.square("d1")), 4);
        Check.due("king", x.man(Check.square("c1")), 6);
        Check.due("corner", x.man(Check.square("a1")), 0);
        Check.due("d8 is attacked now", moves(x).contains(Check.move("e8c8")), false);
        x.add(Check.move("e8g8"));
        Check.due("rook", x.man(Check.square("f8")), 12);
        Check.due("corner", x.man(Check.square("h8")), 0);
    }

    private static boolean mayCastleBehind(String fen, String castling, String... played) {
        MoveTexts x = Check.position(fen);
        for (String squares : played) {
            x.add(Check.move(squares));
        }
        return moves(x).contains(Check.move(castling));
    }

    private static void rightsAreLost() {
        String open = "r3k2r/p6p/8/8/8/8/P6P/R3K2R w KQkq - 0 1";
        Check.due("still there", mayCastleBehind(open, "e1g1", "a2a3", "a7a6"), true);
        Check.due("king went", mayCastleBehind(open, "e1g1", "e1e2", "a7a6", "e2e1", "a6a5"), false);
        Check.due("rook went", mayCastleBehind(open, "e1g1", "h1g1", "a7a6", "g1h1", "a6a5"), false);
        Check.due("not the other rook", mayCastleBehind(open, "e1c1", "h1g1", "a7a6", "g1h1", "a6a5"), true);
        Check.due("long rook went", mayCastleBehind(open, "e1c1", "a1c1", "a7a6", "c1a1", "a6a5"), false);
        Check.due("not the other rook", mayCastleBehind(open, "e1g1", "a1c1", "a7a6", "c1a1", "a6a5"), true);
        Check.due("king went", mayCastleBehind(open, "e1c1", "e1e2", "a7a6", "e2e1", "a6a5"), false);
        String[][] back = {{"a8c8", "c8a8"}, {"h8f8", "f8h8"}, {"e8e7", "e7e8"}};
        for (String[] way : back) {
            Check.due("black lost its own", mayCastleBehind(open, "e1g1", "a2a3", way[0], "a3a4", way[1]), true);
            Check.due("black lost its own", mayCastleBehind(open, "e1c1", "a2a3", way[0], "a3a4", way[1]), true);
        }
        String[][] forth = {{"a1c1", "c1a1"}, {"h1f1", "f1h1"}, {"e1e2", "e2e1"}};
        for (String[] way : forth) {
            Check.due("white lost its own", mayCastleBehind(open, "e8g8", way[0], "a7a6", way[1], "a6a5", "h2h3"), true);
            Check.due("white lost its own", mayCastleBehind(open, "e8c8", way[0], "a7a6", way[1], "a6a5", "h2h3"), true);
        }
        Check.due("black king went", mayCastleBehind(open, "e8c8", "a2a3", "e8d8", "a3a4", "d8e8", "a4a5"), false);
        Check.due("black rook went", mayCastleBehind(open, "e8c8", "a2a3", "a8b8", "a3a4", "b8a8", "a4a5"), false);
        Check.due("black short is there", mayCastleBehind(open, "e8g8", "a2a3", "a8b8", "a3a4", "b8a8", "a4a5"), true);
        Check.due("black short rook went", mayCastleBehind(open, "e8g8", "a2a3", "h8g8", "a3a4", "g8h8", "a4a5"), false);
        String pieces = "4k2r/8/8/3B4/8/8/7R/R3K1R1 w k - 0 1";
        Check.due("another rook comes to the corner",
            mayCastleBehind(pieces, "e8g8", "d5a2", "h8h2", "a2b1", "h2h8", "b1a2"), false);
        String taken = "r3k2r/8/8/8/4B3/8/8/4K3 w kq - 0 1";
        Check.due("rook taken", mayCastleBehind(taken, "e8c8", "e4a8"), false);
        Check.due("the other is there", mayCastleBehind(taken, "e8g8", "e4a8"), true);
        String retaken = "rr2k3/8/8/8/4B3/8/8/4K3 w q - 0 1";
        Check.due("a rook takes there again",
            mayCastleBehind(retaken, "e8c8", "e4a8", "b8a8", "e1f1", "a8b8", "f1e1", "b8a8", "e1f1"), false);
    }

    private static void passing() {
        MoveTexts x = Check.position("4k3/3p4/8/4P3/8/8/8/4K3 b - - 0 1");
        x.add(Check.move("d7d5"));
        Check.due("may take in passing", moves(x).contains(Check.move("e5d6")), true);
        x.add(Check.move("e5d6"));
        Check.due("the pawn beside it is gone", x.man(Check.square("d5")), 0);
        Check.due("it stands there", x.man(Check.square("d6")), 1);
        x.go(1);
        x.add(Check.move("e1d1"));
        x.add(Check.move("e8e7"));
        Check.due("not later", moves(x).contains(Check.move("e5d6")), false);
        MoveTexts y = Check.position("4k3/8/8/8/3p4/8/4P3/4K3 w - - 0 1");
        y.add(Check.move("e2e4"));
        y.add(Check.move("d4e3"));
        Check.due("black takes so, too", y.man(Check.square("e4")), 0);
        Check.due("from the a file", has("4k3/8/8/Pp6/8/8/8/4K3 w - b6 0 1", "a5b6"), true);
        Check.due("from the h file", has("4k3/8/8/6pP/8/8/8/4K3 w - g6 0 1", "h5g6"), true);
        Check.due("towards the a file", has("4k3/8/8/8/Pp6/8/8/4K3 b - a3 0 1", "b4a3"), true);
        Check.due("towards the h file", has("4k3/8/8/8/6pP/8/8/4K3 b - h3 0 1", "g4h3"), true);
        MoveTexts again = Check.position("4k3/8/8/3pP3/8/8/8/4K3 w - d6 0 37");
        Check.due("read", Check.read(again, "[FEN \"4k3/8/8/3pP3/8/8/8/4K3 w - - 0 12\"] 12. Kd1 *"), 0);
        Check.due("no passed square", moves(again).contains(Check.move("e5d6")), false);
        Check.due("read", Check.read(again, "[FEN \"4k3/8/8/3pP3/8/8/8/4K3 w - d6 0 37\"] 37. exd6 *"), 0);
        Check.due("read", Check.read(again, "1. e4 *"), 0);
        Check.due("not behind one step", mayCastleBehind("4k3/8/3p4/4P3/8/8/8/4K3 b - - 0 1", "e5d6", "e8e7"), true);
        Check.due("its king would be in check", has("8/8/8/K2pP2r/8/8/8/7k w - d6 0 1", "e5d6"), false);
        Check.due("its king would not", has("8/8/K7/3pP2r/8/8/8/7k w - d6 0 1", "e5d6"), true);
        Check.due("a pawn at the board's other side", mayCastleBehind("4k3/p7/8/7P/8/8/8/4K3 b - - 0 1", "h5a6", "a7a5"), false);
        Check.due("it is no way out of check for other men", has("4k3/8/8/3pP3/8/8/8/3K1R2 w - d6 0 1", "f1f6"), true);
    }

    private static void becomingAnother() {
        MoveTexts x = Check.position("1n5k/P1P5/8/8/8/8/p7/1N5K b - - 0 1");
        for (int becomes = 2; becomes <= 5; becomes++) {
            x.go(0);
            x.add(Check.move("a2b1", becomes));
            Check.due("becomes black " + becomes, x.man(Check.square("b1")), 8 + becomes);
        }
        x.go(0);
        for (int becomes : new int[] {0, 1, 6, 7, 8}) {
            int wrong = Check.move("a2a1", becomes);
            Check.throwsDue("becomes " + becomes, IllegalArgumentException.class, () -> x.add(wrong));
        }
        Check.throwsDue("a king does not", IllegalArgumentException.class, () -> x.add(Check.move("h8g8", 5)));
    }

    private static void soundTexts() {
        String[] sound = {KINGS, "4k3/8/8/8/8/8/8/4K3 b - - 999 999", "4k3/8/8/8/8/8/8/4K3 w - - 10 100",
            "r3k2r/8/8/8/8/8/8/R3K2R b Kq - 0 1", "r3k2r/8/8/8/8/8/8/R3K2R b Qk - 0 1",
            "4k3/8/8/3pP3/8/8/8/4K3 w - d6 0 1", "4k3/8/8/8/3pP3/8/8/4K3 b - e3 0 1",
            "QQQQkQQQ/QQQ1QQ1Q/QQQQQQQQ/QQQQQQQQ/QQQQQQQQ/QQQQQQQQ/QQQQQQQQ/QQQQKQQQ b - - 0 1",
            "8/8/8/K2pP2r/8/8/8/7k w - d6 0 1", "4k3/8/8/8/8/8/4r3/4K3 w - - 0 1"};
        for (String fen : sound) {
            Check.position(fen);
        }
    }

    private static void refused(String fen) {
        Check.due("read of <" + fen + ">", Check.read(new MoveTexts(), "[FEN \"" + fen + "\"]*"), 30000);
    }

    private static void textsNotWrittenSo() {
        String[] wrong = {"", "x", "4k3/8/8/8/8/8/8/4K3", "4k3/8/8/8/8/8/8/4K3 w - - 0", "4k3/8/8/8/8/8/8/4K3 w - - 0 ",
            " " + KINGS, KINGS + " ", KINGS.replace(" w", "  w"), KINGS.replace(" w ", " x "), KINGS.replace(" w ", " "),
            "4k3/8/8/8/8/8/4K3 w - - 0 1", "4k3/8/8/8/8/8/8/4K3/8 w - - 0 1", "4k4/8/8/8/8/8/8/4K3 w - - 0 1",
            "4k2/8/8/8/8/8/8/4K3 w - - 0 1", "4k21/8/8/8/8/8/8/4K3 w - - 0 1", "4k3/44/8/8/8/8/8/4K3 w - - 0 1",
            "4k3/9/8/8/8/8/8/4K3 w - - 0 1", "4k30/8/8/8/8/8/8/4K3 w - - 0 1", "4k3/8/8/8/8/8/8/4K3/ w - - 0 1",
            "4k3/7pp/8/8/8/8/8/4K3 w - - 0 1", "4x3/8/8/8/8/8/8/4K3 w - - 0 1", "4k3/8/ 8/8/8/8/8/4K3 w - - 0 1",
            "r3k2r/8/8/8/8/8/8/R3K2R w QK - 0 1", "r3k2r/8/8/8/8/8/8/R3K2R w qK - 0 1", "r3k2r/8/8/8/8/8/8/R3K2R w KK - 0 1",
            "r3k2r/8/8/8/8/8/8/R3K2R w K- - 0 1", "r3k2r/8/8/8/8/8/8/R3K2R w -K - 0 1", "r3k2r/8/8/8/8/8/8/R3K2R w  - 0 1",
            KINGS.replace("- 0", "i6 0"), KINGS.replace("- 0", "a9 0"), KINGS.replace("- 0", "a0 0"), KINGS.replace("- 0", "a 0"),
            KINGS.replace("- 0", "A6 0"), KINGS.replace(" 0 1", " 00 1"), KINGS.replace(" 0 1", " 01 1"),
            KINGS.replace(" 0 1", " 1000 1"), KINGS.replace(" 0 1", " -1 1"), KINGS.replace(" 0 1", " - 1"),
            KINGS.replace(" 0 1", " 0 0"), KINGS.replace(" 0 1", " 0 01"), KINGS.replace(" 0 1", " 0 1000"),
            KINGS.replace(" 0 1", " 0 1x"), KINGS.replace(" 0 1", " 0  1"), KINGS.replace(" 0 1", " 0 00")};
        for (String fen : wrong) {
            refused(fen);
        }
    }

    private static void textsOfNoPosition() {
        String[] wrong = {
            "8/8/8/8/8/8/8/8 w - - 0 1", "4k3/8/8/8/8/8/8/8 w - - 0 1", "8/8/8/8/8/8/8/4K3 w - - 0 1",
            "4k3/8/8/8/8/8/8/K3K3 w - - 0 1", "4k2k/8/8/8/8/8/8/4K3 w - - 0 1",
            "P3k3/8/8/8/8/8/8/4K3 w - - 0 1", "4k3/8/8/8/8/8/8/P3K3 w - - 0 1",
            "p3k3/8/8/8/8/8/8/4K3 w - - 0 1", "4k3/8/8/8/8/8/8/4K2p w - - 0 1",
            "4k3/8/8/8/8/8/4R3/4K3 w - - 0 1", "4k3/8/8/8/8/8/4r3/4K3 b - - 0 1", "8/8/8/8/8/8/4k3/4K3 w - - 0 1",
            "4k3/3P4/8/8/8/8/8/4K3 w - - 0 1",
            "4k3/8/8/8/8/8/8/4K2R w Q - 0 1", "4k3/8/8/8/8/8/8/R3K3 w K - 0 1", "4k3/8/8/8/8/8/8/R2K3R w K - 0 1",
            "r3k3/8/8/8/8/8/8/4K3 w k - 0 1", "4k2r/8/8/8/8/8/8/4K3 w q - 0 1", "r2k3r/8/8/8/8/8/8/4K3 w q - 0 1",
            "4k3/8/8/8/8/8/8/4K2r w K - 0 1", "R3k3/8/8/8/8/8/8/4K3 b q - 0 1",
            "4k3/8/3n4/3pP3/8/8/8/4K3 w - d6 0 1", "4k3/3n4/8/3pP3/8/8/8/4K3 w - d6 0 1", "4k3/8/8/3nP3/8/8/8/4K3 w - d6 0 1",
            "4k3/8/8/3PP3/8/8/8/4K3 w - d6 0 1", "4k3/8/8/3p4/8/8/8/4K3 w - d6 0 1", "4k3/8/8/3pp3/8/8/8/4K3 w - d6 0 1",
            "4k3/8/8/8/3pP3/8/8/4K3 w - e3 0 1", "4k3/8/8/3pP3/8/8/8/4K3 b - d6 0 1", "4k3/8/8/3pN3/8/8/8/4K3 w - d6 0 1",
            "4k3/8/8/8/8/8/8/4K3 w - a1 0 1", "4k3/8/8/8/8/8/8/4K3 b - h8 0 1", "4k3/8/8/p7/7P/8/8/4K3 w - a6 0 1", "4k3/8/P7/7p/8/8/8/4K3 w - h6 0 1",
            "4k3/8/8/p6P/8/8/8/4K3 w - a6 0 1",
            "4k3/8/8/8/3pP3/8/4N3/4K3 b - e3 0 1", "4k3/8/8/8/3pP3/4n3/8/4K3 b - e3 0 1"};
        for (String fen : wrong) {
            refused(fen);
        }
    }
}
