import java.util.TreeSet;

/** Positions, their texts and the moves of men, sentence by sentence: what is just allowed, and what just is not. */
public final class PositionEdgesTest {
    public static void main(String[] args) {
        leapersAtTheEdge();
        linesOverEmptySquares();
        pawnSteps();
        pawnsTaking();
        passedSquare();
        passedSquareAndTheKing();
        becoming();
        attackedWhateverIsThere();
        outOfCheck();
        castlingConditions();
        castlingMovesBoth();
        rightsLost();
        numberOfTheMove();
        textOfMen();
        textOfFields();
        textOfNumbers();
        kingsAndPawns();
        notToMoveInCheck();
        rightsInTheText();
        passedSquareInTheText();
        Check.close("PositionEdgesTest");
    }

    /** The squares to which the man on a square may legally go, in the order of their names. */
    private static String from(MoveTexts x, String square) {
        TreeSet<String> all = new TreeSet<>();
        for (int k = 0; x.move(k) != MoveTexts.NONE; k++) {
            if ((x.move(k) & 63) == Check.square(square)) {
                int to = x.move(k) >> 6 & 63;
                all.add("" + (char) ('a' + to % 8) + (char) ('1' + to / 8));
            }
        }
        return String.join(" ", all);
    }

    private static void goes(String fen, String square, String due) {
        Check.due("from " + square + " in " + fen, from(Check.position(fen), square), due);
    }

    /** A position with white to move: the kings far away, and those men. */
    private static void whiteGoes(String men, String square, String due) {
        goes(men + " w - - 0 1", square, due);
    }

    private static void blackGoes(String men, String square, String due) {
        goes(men + " b - - 0 1", square, due);
    }

    private static void legal(String fen, String squares, boolean due) {
        MoveTexts x = Check.position(fen);
        boolean got = false;
        for (int k = 0; x.move(k) != MoveTexts.NONE; k++) {
            got = got || (x.move(k) & 4095) == Check.move(squares);
        }
        Check.due(squares + " in " + fen, got, due);
    }

    private static void sound(String fen) {
        Check.due("read of <" + fen + ">", Check.read(new MoveTexts(), "[FEN \"" + fen + "\"]*"), 0);
    }

    private static void wrong(String fen) {
        Check.unchanged("read of <" + fen + ">", 30000, () -> typed("[FEN \"" + fen + "\"]*"), x -> x.read());
    }

    private static MoveTexts typed(String text) {
        MoveTexts x = new MoveTexts();
        Check.type(x, text);
        return x;
    }

    private static void leapersAtTheEdge() {
        whiteGoes("7k/8/8/8/8/8/8/N6K", "a1", "b3 c2");
        whiteGoes("k7/8/8/8/8/8/8/K6N", "h1", "f2 g3");
        whiteGoes("N6k/8/8/8/8/8/8/7K", "a8", "b6 c7");
        whiteGoes("k6N/8/8/8/8/8/8/K7", "h8", "f7 g6");
        whiteGoes("7k/8/8/8/8/8/8/1N5K", "b1", "a3 c3 d2");
        whiteGoes("7k/8/8/8/N7/8/8/7K", "a4", "b2 b6 c3 c5");
        whiteGoes("7k/8/8/7N/8/8/8/K7", "h5", "f4 f6 g3 g7");
        whiteGoes("7k/8/8/8/3N4/8/8/7K", "d4", "b3 b5 c2 c6 e2 e6 f3 f5");
        blackGoes("n6k/8/8/8/8/8/8/7K", "a8", "b6 c7");
        whiteGoes("7k/8/8/8/8/8/8/K7", "a1", "a2 b1 b2");
        whiteGoes("k7/8/8/8/8/8/8/7K", "h1", "g1 g2 h2");
        whiteGoes("K7/8/8/8/8/8/8/7k", "a8", "a7 b7 b8");
        whiteGoes("7K/8/8/8/8/8/8/k7", "h8", "g7 g8 h7");
        whiteGoes("7k/8/8/8/K7/8/8/8", "a4", "a3 a5 b3 b4 b5");
        whiteGoes("k7/8/8/7K/8/8/8/8", "h5", "g4 g5 g6 h4 h6");
        whiteGoes("7k/8/8/8/3K4/8/8/8", "d4", "c3 c4 c5 d3 d5 e3 e4 e5");
        blackGoes("7k/8/8/8/8/8/8/K7", "h8", "g7 g8 h7");
    }

    private static void linesOverEmptySquares() {
        whiteGoes("6k1/8/8/8/8/8/8/R5K1", "a1", "a2 a3 a4 a5 a6 a7 a8 b1 c1 d1 e1 f1");
        whiteGoes("6k1/8/8/8/8/8/6K1/7R", "h1", "a1 b1 c1 d1 e1 f1 g1 h2 h3 h4 h5 h6 h7 h8");
        whiteGoes("6k1/8/8/8/8/8/6K1/B7", "a1", "b2 c3 d4 e5 f6 g7 h8");
        whiteGoes("6k1/8/8/8/B7/8/8/6K1", "a4", "b3 b5 c2 c6 d1 d7 e8");
        whiteGoes("8/k7/8/7B/8/8/8/K7", "h5", "d1 e2 e8 f3 f7 g4 g6");
        whiteGoes("6k1/8/8/8/8/8/8/Q5K1", "a1", "a2 a3 a4 a5 a6 a7 a8 b1 b2 c1 c3 d1 d4 e1 e5 f1 f6 g7 h8");
        whiteGoes("6k1/8/3p4/8/1P1R1p2/8/3P4/6K1", "d4", "c4 d3 d5 d6 e4 f4");
        whiteGoes("6k1/8/1p3P2/8/3B4/8/1P3p2/K7", "d4", "b6 c3 c5 e3 e5 f2");
        whiteGoes("6k1/8/1p1p1P2/8/1P1Q1p2/8/1P1P1p2/7K", "d4", "b6 c3 c4 c5 d3 d5 d6 e3 e4 e5 f2 f4");
        whiteGoes("6k1/8/8/2ppp3/2pRp3/2ppp3/8/6K1", "d4", "c4 d3 d5 e4");
        whiteGoes("6k1/8/8/2PPP3/2PNP3/2PPP3/8/6K1", "d4", "b3 b5 c2 c6 e2 e6 f3 f5");
        blackGoes("6k1/8/8/8/1P1r1p2/8/8/6K1", "d4", "b4 c4 d1 d2 d3 d5 d6 d7 d8 e4");
    }

    private static void pawnSteps() {
        whiteGoes("7k/8/8/8/8/8/P6P/K7", "a2", "a3 a4");
        whiteGoes("7k/8/8/8/8/8/P6P/K7", "h2", "h3 h4");
        whiteGoes("7k/8/8/8/8/P7/8/K7", "a3", "a4");
        whiteGoes("7k/8/P7/8/8/8/8/K7", "a6", "a7");
        blackGoes("7k/p7/8/8/8/8/8/K7", "a7", "a5 a6");
        blackGoes("7k/8/p7/8/8/8/8/K7", "a6", "a5");
        blackGoes("7k/8/8/8/8/p7/8/7K", "a3", "a2");
        for (String man : new String[] {"p", "n", "P", "N"}) {
            whiteGoes("7k/8/8/8/8/4" + man + "3/4P3/K7", "e2", "");
            whiteGoes("7k/8/8/8/4" + man + "3/8/4P3/K7", "e2", "e3");
            blackGoes("7k/4p3/4" + man + "3/8/8/8/8/K7", "e7", "");
            blackGoes("7k/4p3/8/4" + man + "3/8/8/8/K7", "e7", "e6");
        }
        whiteGoes("7k/8/8/8/4n3/8/4P3/K7", "e2", "e3");
        whiteGoes("7k/8/8/4n3/8/8/4P3/K7", "e2", "e3 e4");
        MoveTexts x = Check.game("e3 e6 *");
        x.go(2);
        Check.due("one step and then", from(x, "e3"), "e4");
    }

    private static void pawnsTaking() {
        whiteGoes("7k/8/8/3nnn2/4P3/8/8/K7", "e4", "d5 f5");
        whiteGoes("7k/8/8/3N1N2/4P3/8/8/K7", "e4", "e5");
        whiteGoes("7k/8/8/8/3nPn2/3n1n2/8/K7", "e4", "e5");
        blackGoes("7k/8/8/4p3/3NNN2/8/8/K7", "e5", "d4 f4");
        blackGoes("7k/8/8/4p3/3n1n2/8/8/K7", "e5", "e4");
        whiteGoes("6k1/8/8/nn6/P6n/8/8/K7", "a4", "b5");
        whiteGoes("6k1/8/n7/6nn/7P/8/8/K7", "h4", "g5");
        blackGoes("6k1/8/8/p7/NN6/7N/8/K7", "a5", "b4");
        blackGoes("6k1/8/8/N6p/6NN/8/8/K7", "h5", "g4");
        whiteGoes("6k1/8/8/p7/P7/8/8/K7", "a4", "");
    }

    private static void passedSquare() {
        legal("4k3/8/8/3pP3/8/8/8/4K3 w - d6 0 1", "e5d6", true);
        legal("4k3/8/8/3pP3/8/8/8/4K3 w - - 0 1", "e5d6", false);
        legal("4k3/8/8/3pPp2/8/8/8/4K3 w - d6 0 1", "e5f6", false);
        legal("4k3/8/8/3pPp2/8/8/8/4K3 w - f6 0 1", "e5f6", true);
        legal("4k3/8/8/8/3Pp3/8/8/4K3 b - d3 0 1", "e4d3", true);
        legal("4k3/8/8/8/3Pp3/8/8/4K3 b - - 0 1", "e4d3", false);
        twoSteps("4k3/3p4/8/2P1P3/8/8/8/4K3 b - - 0 1", "d7d5", "c5d6", true);
        twoSteps("4k3/3p4/8/2P1P3/8/8/8/4K3 b - - 0 1", "d7d5", "e5d6", true);
        twoSteps("4k3/3p4/8/1P3P2/8/8/8/4K3 b - - 0 1", "d7d5", "b5d6", false);
        twoSteps("4k3/8/3p4/2P1P3/8/8/8/4K3 b - - 0 1", "d6d5", "e5d6", false);
        twoSteps("4k3/8/8/8/2p1p3/8/3P4/4K3 w - - 0 1", "d2d4", "c4d3", true);
        twoSteps("4k3/8/8/8/2p1p3/8/3P4/4K3 w - - 0 1", "d2d4", "e4d3", true);
        twoSteps("4k3/8/8/8/2p1p3/3P4/8/4K3 w - - 0 1", "d3d4", "e4d3", false);
        twoSteps("4k3/p7/8/1P6/8/8/8/4K3 b - - 0 1", "a7a5", "b5a6", true);
        twoSteps("4k3/7p/8/6P1/8/8/8/4K3 b - - 0 1", "h7h5", "g5h6", true);
        twoSteps("4k3/7p/8/P7/8/8/8/4K3 b - - 0 1", "h7h5", "a5h6", false);
        twoSteps("4k3/p7/7P/8/8/8/8/4K3 b - - 0 1", "a7a5", "h6a6", false);
        MoveTexts x = Check.position("4k3/8/8/3pP3/8/8/8/3RK3 w - d6 0 1");
        x.add(Check.move("e5d6"));
        Check.due("the pawn beside it is taken", x.man(Check.square("d5")), 0);
        x.go(0);
        x.add(Check.move("e5e6"));
        Check.due("not behind another move", x.man(Check.square("d5")), 9);
        MoveTexts y = Check.position("4k3/8/8/3pP3/8/8/8/K1B5 w - d6 0 1");
        y.add(Check.move("c1g5"));
        y.add(Check.move("e8f8"));
        Check.due("only at once", from(y, "e5"), "e6");
        MoveTexts rook = Check.position("4k3/8/R7/3pP3/8/8/8/4K3 w - d6 0 1");
        rook.add(Check.move("a6d6"));
        Check.due("another man does not take so", rook.man(Check.square("d5")), 9);
    }

    private static void twoSteps(String fen, String steps, String taking, boolean due) {
        MoveTexts x = Check.position(fen);
        x.add(Check.move(steps));
        boolean got = (" " + from(x, taking.substring(0, 2)) + " ").contains(" " + taking.substring(2) + " ");
        Check.due(taking + " behind " + steps, got, due);
    }

    private static void passedSquareAndTheKing() {
        legal("8/8/8/K2pP2r/8/8/8/7k w - d6 0 1", "e5d6", false);
        legal("8/8/8/K2pP2n/8/8/8/7k w - d6 0 1", "e5d6", true);
        legal("7k/8/1b6/3pP3/8/8/5K2/8 w - d6 0 1", "e5d6", false);
        legal("7k/8/8/3pP3/2K5/8/8/8 w - d6 0 1", "e5d6", true);
        legal("7k/8/8/3pP3/2K5/8/8/8 w - d6 0 1", "c4d5", true);
        legal("b6k/8/8/3pP3/4K3/8/8/8 w - d6 0 1", "e5d6", false);
        legal("4r2k/8/8/3pP3/8/8/8/4K3 w - d6 0 1", "e5d6", false);
        legal("4r2k/8/8/3pP3/8/8/8/3K4 w - d6 0 1", "e5d6", true);
    }

    private static void becoming() {
        for (String fen : new String[] {"1n5k/P7/8/8/8/8/8/K7 w - - 0 1", "k7/8/8/8/8/8/p7/1N5K b - - 0 1"}) {
            MoveTexts x = Check.position(fen);
            boolean white = fen.contains(" w ");
            for (String squares : white ? new String[] {"a7a8", "a7b8"} : new String[] {"a2a1", "a2b1"}) {
                for (int m = 0; m <= 7; m++) {
                    int move = Check.move(squares, m);
                    x.go(0);
                    if (m >= 2 && m <= 5) {
                        x.add(move);
                        Check.due("becomes", x.man(Check.square(squares.substring(2))), white ? m : 8 + m);
                    } else {
                        Check.throwsDue(squares + " becomes " + m, IllegalArgumentException.class, () -> x.add(move));
                    }
                }
            }
        }
        MoveTexts y = Check.position("7k/8/P7/8/8/8/1p6/7K w - - 0 1");
        for (int m = 1; m <= 7; m++) {
            int move = Check.move("a6a7", m);
            Check.throwsDue("not on the last rank", IllegalArgumentException.class, () -> y.add(move));
        }
        y.add(Check.move("a6a7"));
        Check.due("it is a pawn still", y.man(Check.square("a7")), 1);
        for (String file : new String[] {"a", "d", "h"}) {
            lastRank("1k6/8/x/8/8/8/8/1K6 w - - 0 1", 'P', file + "6" + file + "7", false);
            lastRank("8/x/1k6/8/8/8/8/1K6 w - - 0 1", 'P', file + "7" + file + "8", true);
            lastRank("1k6/8/8/8/8/x/8/1K6 b - - 0 1", 'p', file + "3" + file + "2", false);
            lastRank("1k6/8/8/8/8/1K6/x/8 b - - 0 1", 'p', file + "2" + file + "1", true);
        }
        MoveTexts rook = Check.position("7k/R7/8/8/8/8/8/7K w - - 0 1");
        Check.throwsDue("only pawns", IllegalArgumentException.class, () -> rook.add(Check.move("a7a8", 5)));
    }

    /** The pawn's rank is written as x. It becomes another man on the last rank, and only there. */
    private static void lastRank(String fen, char pawn, String squares, boolean due) {
        int file = squares.charAt(0) - 'a';
        MoveTexts x = Check.position(fen.replace("x", row(file, pawn, file, pawn)));
        String moves = " " + Check.moves(x);
        for (int m = 0; m <= 7; m++) {
            boolean there = moves.contains(" " + Check.move(squares, m) + " ");
            Check.due(squares + " becomes " + m, there, due ? m >= 2 && m <= 5 : m == 0);
        }
    }

    private static void attackedWhateverIsThere() {
        whiteGoes("7k/8/8/8/8/2n5/1b6/K7", "a1", "b2");
        whiteGoes("7k/8/8/8/8/2p5/1b6/K7", "a1", "a2 b1");
        whiteGoes("7k/8/8/8/4p3/8/4K3/8", "e2", "d1 d2 e1 e3 f1 f2");
        whiteGoes("7k/8/8/8/8/3Np3/8/4K3", "e1", "d1 e2 f1");
        whiteGoes("4r2k/8/8/8/4K3/8/8/8", "e4", "d3 d4 d5 f3 f4 f5");
        whiteGoes("8/8/8/3k4/8/3K4/8/8", "d3", "c2 c3 d2 e2 e3");
        blackGoes("8/8/8/3k4/8/3K4/8/8", "d5", "c5 c6 d6 e5 e6");
        whiteGoes("k7/8/8/8/b7/8/R7/4K3", "e1", "d2 e2 f1 f2");
        whiteGoes("k7/b7/8/8/8/8/R7/6K1", "g1", "f1 g2 h1 h2");
        whiteGoes("6k1/6n1/8/5K2/8/8/6R1/8", "f5", "e4 e5 f4 f6 g4 g5 g6");
    }

    private static void outOfCheck() {
        String checked = "4r1k1/8/8/8/B7/8/3N4/4K2Q w - - 0 1";
        goes(checked, "e1", "d1 f1 f2");
        goes(checked, "a4", "e8");
        goes(checked, "d2", "e4");
        goes(checked, "h1", "e4");
        String twice = "4r2k/8/8/8/1b6/8/8/R3K3 w Q - 0 1";
        goes(twice, "a1", "");
        goes(twice, "e1", "d1 f1 f2");
        String pinned = "4r2k/8/8/8/8/8/4R3/4K3 w - - 0 1";
        goes(pinned, "e2", "e3 e4 e5 e6 e7 e8");
        goes("7k/8/8/8/1b6/8/3P4/4K3 w - - 0 1", "d2", "");
        goes("7k/8/8/8/4r3/8/4P3/4K3 w - - 0 1", "e2", "e3");
        goes("7k/8/8/2pP4/1K6/8/8/8 w - c6 0 1", "d5", "c6");
        goes("k7/8/8/8/8/3n4/8/4K2R w K - 0 1", "h1", "");
    }

    private static void castlingConditions() {
        String[] empty = {"r3k2r/8/8/8/8/8/8/R3K2R w KQkq - 0 1", "r3k2r/8/8/8/8/8/8/R3K2R b KQkq - 0 1"};
        String[][] castling = {{"e1g1", "e1c1"}, {"e8g8", "e8c8"}};
        for (int side = 0; side < 2; side++) {
            legal(empty[side], castling[side][0], true);
            legal(empty[side], castling[side][1], true);
            String[] shortless = {"Qkq", "KQq"};
            String[] longless = {"Kkq", "KQk"};
            legal(empty[side].replace("KQkq", shortless[side]), castling[side][0], false);
            legal(empty[side].replace("KQkq", shortless[side]), castling[side][1], true);
            legal(empty[side].replace("KQkq", longless[side]), castling[side][1], false);
            legal(empty[side].replace("KQkq", longless[side]), castling[side][0], true);
            legal(empty[side].replace("KQkq", "-"), castling[side][0], false);
            legal(empty[side].replace("KQkq", "-"), castling[side][1], false);
        }
        String[] ranks = {"RN2K2R", "R1N1K2R", "R2NK2R", "R3KN1R", "R3K1NR", "R3K2R"};
        boolean[] longOpen = {false, false, false, true, true, true};
        boolean[] shortOpen = {true, true, true, false, false, true};
        for (int i = 0; i < ranks.length; i++) {
            for (String man : new String[] {"N", "n"}) {
                String white = ranks[i].replace("N", man);
                legal("4k3/8/8/8/8/8/8/" + white + " w KQ - 0 1", "e1c1", longOpen[i]);
                legal("4k3/8/8/8/8/8/8/" + white + " w KQ - 0 1", "e1g1", shortOpen[i]);
                String black = ranks[i].toLowerCase().replace("n", man);
                legal(black + "/8/8/8/8/8/8/4K3 b kq - 0 1", "e8c8", longOpen[i]);
                legal(black + "/8/8/8/8/8/8/4K3 b kq - 0 1", "e8g8", shortOpen[i]);
            }
        }
        attackedByRook();
    }

    /** Rooks down each file in turn: the king's square, the one that it passes, the one to which it goes, and the others. */
    private static void attackedByRook() {
        boolean[] longOpen = {true, true, false, false, false, true, true, true};
        boolean[] shortOpen = {true, true, true, true, false, false, false, true};
        for (int file = 0; file < 8; file++) {
            String rook = (file == 0 ? "" : "" + file) + "r" + (file == 7 ? "" : "" + (7 - file));
            String white = "8/1k6/8/" + rook + "/8/8/8/R3K2R w KQ - 0 1";
            legal(white, "e1c1", longOpen[file]);
            legal(white, "e1g1", shortOpen[file]);
            String black = "r3k2r/8/8/8/" + rook.toUpperCase() + "/8/1K6/8 b kq - 0 1";
            legal(black, "e8c8", longOpen[file]);
            legal(black, "e8g8", shortOpen[file]);
        }
        legal("4k3/8/8/8/8/8/4p3/R3K2R w KQ - 0 1", "e1g1", false);
        legal("4k3/8/8/8/8/8/6p1/R3K2R w KQ - 0 1", "e1g1", false);
        legal("4k3/8/8/8/8/8/7p/R3K2R w KQ - 0 1", "e1g1", false);
        legal("4k3/8/8/8/8/7p/8/R3K2R w KQ - 0 1", "e1g1", true);
        legal("4k3/8/8/8/8/8/1p6/R3K2R w KQ - 0 1", "e1c1", false);
        legal("4k3/8/8/8/8/8/p7/R3K2R w KQ - 0 1", "e1c1", true);
        legal("8/8/8/8/8/8/1k6/R3K2R w KQ - 0 1", "e1c1", false);
        legal("4k3/8/8/8/8/8/8/R3K2R w KQ - 0 1", "e1b1", false);
    }

    private static void castlingMovesBoth() {
        String[] moves = {"e1g1", "e1c1", "e8g8", "e8c8"};
        String[] due = {"f1 4 g1 6 e1 0 h1 0 a1 4", "d1 4 c1 6 e1 0 a1 0 b1 0 h1 4", "f8 12 g8 14 e8 0 h8 0 a8 12", "d8 12 c8 14 e8 0 a8 0 b8 0 h8 12"};
        for (int i = 0; i < 4; i++) {
            MoveTexts x = Check.position("r3k2r/8/8/8/8/8/8/R3K2R " + (i < 2 ? "w" : "b") + " KQkq - 0 1");
            x.add(Check.move(moves[i]));
            String[] pairs = due[i].split(" ");
            for (int k = 0; k < pairs.length; k += 2) {
                Check.due(pairs[k] + " behind " + moves[i], x.man(Check.square(pairs[k])), Integer.parseInt(pairs[k + 1]));
            }
        }
        MoveTexts king = Check.position("4k3/8/8/8/8/8/8/R3K2R w KQ - 0 1");
        king.add(Check.move("e1f1"));
        Check.due("one square is no castling", king.man(7), 4);
        MoveTexts rook = Check.position("1k6/8/8/8/8/8/8/K3R2R w - - 0 1");
        rook.add(Check.move("e1g1"));
        Check.due("nor is a rook's way", rook.man(7), 4);
    }

    private static void may(boolean due, String castling, String fen, String... played) {
        MoveTexts x = Check.position(fen);
        for (String squares : played) {
            x.add(Check.move(squares));
        }
        String to = " " + from(x, castling.substring(0, 2)) + " ";
        Check.due(castling + " behind " + String.join(" ", played), to.contains(" " + castling.substring(2) + " "), due);
    }

    private static void rightsLost() {
        String white = "4k3/7p/8/8/8/8/7P/R3K2R w KQ - 0 1";
        may(true, "e1g1", white, "h2h3", "h7h6");
        may(true, "e1c1", white, "h2h3", "h7h6");
        may(false, "e1g1", white, "e1d1", "h7h6", "d1e1", "h6h5");
        may(false, "e1c1", white, "e1d1", "h7h6", "d1e1", "h6h5");
        may(false, "e1g1", white, "h1g1", "h7h6", "g1h1", "h6h5");
        may(true, "e1c1", white, "h1g1", "h7h6", "g1h1", "h6h5");
        may(true, "e1g1", white, "a1b1", "h7h6", "b1a1", "h6h5");
        may(false, "e1c1", white, "a1b1", "h7h6", "b1a1", "h6h5");
        String black = "r3k2r/7p/8/8/8/8/7P/4K3 b kq - 0 1";
        may(true, "e8g8", black, "h7h6", "h2h3");
        may(true, "e8c8", black, "h7h6", "h2h3");
        may(false, "e8g8", black, "e8d8", "h2h3", "d8e8", "h3h4");
        may(false, "e8c8", black, "e8d8", "h2h3", "d8e8", "h3h4");
        may(false, "e8g8", black, "h8g8", "h2h3", "g8h8", "h3h4");
        may(true, "e8c8", black, "h8g8", "h2h3", "g8h8", "h3h4");
        may(true, "e8g8", black, "a8b8", "h2h3", "b8a8", "h3h4");
        may(false, "e8c8", black, "a8b8", "h2h3", "b8a8", "h3h4");
        String castled = "4k3/7p/8/8/8/8/7P/R3K2R w KQ - 0 1";
        may(false, "e1c1", castled, "e1g1", "h7h6", "f1f2", "h6h5", "g1f1", "h5h4", "f1e1", "h4h3");
        String[][] taken = {{"4k3/8/8/8/4b3/8/8/R2NK2R b KQ - 0 1", "e4h1", "d1c3", "h1e4", "e1g1"},
            {"4k3/8/8/8/3b4/8/8/R3KN1R b KQ - 0 1", "d4a1", "f1g3", "a1d4", "e1c1"}};
        for (String[] way : taken) {
            may(false, way[4], way[0], way[1], way[2], way[3]);
        }
        may(true, "e1c1", "4k3/8/8/8/4b3/8/8/R3K2R b KQ - 0 1", "e4h1");
        may(true, "e1g1", "4k3/8/8/8/3b4/8/8/R3K2R b KQ - 0 1", "d4a1");
        may(true, "e8c8", "r3k2r/8/8/8/3B4/8/8/4K3 w kq - 0 1", "d4h8");
        may(true, "e8g8", "r3k2r/8/8/8/4B3/8/8/4K3 w kq - 0 1", "e4a8");
        String again = "4k3/8/8/8/4b3/6R1/8/4K2R b K - 0 1";
        may(false, "e1g1", again, "e4h1", "g3g1", "e8d8", "g1h1", "d8e8");
        String twin = "rr2k3/8/8/8/4B3/8/8/4K3 w q - 0 1";
        may(false, "e8c8", twin, "e4a8", "b8a8", "e1f1", "e8e7", "f1e1", "e7e8", "e1f1");
    }

    private static void numberOfTheMove() {
        Check.due("1 at first", Check.written(Check.game("e4 e5 d4 d5 *")), "1. e4 e5 2. d4 d5 *");
        String from = "[FEN \"4k3/8/8/8/8/8/8/4K3 b - - 0 998\"]";
        Check.due("1 more behind black", Check.written(Check.game(from + "Kd8 Kd1 Ke8 Ke1 Kd8 *")),
            from + "\n\n998... Kd8 999. Kd1 Ke8 1000. Ke1 Kd8 *");
    }

    private static void textOfMen() {
        for (String rank : new String[] {"8", "p7", "7p", "1p6", "6p1", "p6p", "3pp3", "pppppppp", "1p1p1p1p", "p1p1p1p1", "3NBnb1", "nNbNpPrN"}) {
            sound("k7/8/8/" + rank + "/8/8/8/K7 w - - 0 1");
        }
        sound("k7/2QR4/8/8/8/8/2qr4/K7 w - - 0 1");
        for (String rank : new String[] {"", "7", "9", "0", "p", "p6", "p8", "7pp", "8p", "44", "17", "71", "p16", "ppppppppp", "pppp", "4 4",
            "x7", "7x", "+8", "8 ", " 8", "p7p", "1p7", "-", "O7", "T7", "k6", "o7", "p0p6"}) {
            wrong("k7/8/8/" + rank + "/8/8/8/K7 w - - 0 1");
        }
        wrong("k7/8/8/8/8/8/K7 w - - 0 1");
        wrong("k7/8/8/8/8/8/8/8/K7 w - - 0 1");
        wrong("k7/8/8/8/8/8/8/K7/ w - - 0 1");
        wrong("/k7/8/8/8/8/8/8/K7 w - - 0 1");
        wrong("k7/8/8//8/8/8/K7 w - - 0 1");
        wrong("k7/8/8/8/8/8/8K7 w - - 0 1");
        wrong("k7/8/8/8/8/8/8 K7 w - - 0 1");
        wrong("k7 8 8 8 8 8 8 K7 w - - 0 1");
        wrong("k7|8|8|8|8|8|8|K7 w - - 0 1");
    }

    private static void textOfFields() {
        String men = "k7/8/8/8/8/8/8/K7";
        sound(men + " w - - 0 1");
        sound(men + " b - - 0 1");
        for (String rest : new String[] {"", " ", " w", " w ", " w -", " w - ", " w - -", " w - - ", " w - - 0", " w - - 0 ", " w - - 0 1 ",
            " w - - 0 1 1", "  w - - 0 1", " w  - - 0 1", " w -  - 0 1", " w - -  0 1", " w - - 0  1", "w - - 0 1", " w- - 0 1", " w -- 0 1",
            " w - -0 1", " W - - 0 1", " B - - 0 1", " x - - 0 1", " - - - 0 1", " wb - - 0 1", " ww - - 0 1", " 0 - - 0 1", "_w_-_-_0_1",
            " w - - 0 1-", " w - - 0 1x", " w - - 0 1.", " w - i6 0 1", " w - a0 0 1", " w - a9 0 1", " w - a 0 1", " w - 6 0 1", " w - a66 0 1",
            " w - A6 0 1", " w - 6a 0 1", " w - -- 0 1", " w - a6- 0 1"}) {
            wrong(men + rest);
        }
        wrong(" " + men + " w - - 0 1");
    }

    private static void textOfNumbers() {
        String fields = "k7/8/8/8/8/8/8/K7 w - - ";
        for (String clock : new String[] {"0", "1", "9", "10", "99", "100", "999"}) {
            sound(fields + clock + " 1");
        }
        for (String clock : new String[] {"", "-", "00", "01", "000", "001", "099", "1000", "9999", "0999", "-1", "+1", "1.", "a", "1a", "0x1", "1e1"}) {
            wrong(fields + clock + " 1");
        }
        for (String number : new String[] {"1", "2", "9", "10", "99", "100", "999"}) {
            MoveTexts x = Check.position(fields + "0 " + number);
            Check.due("the number is right", Check.read(x, "[FEN \"" + fields + "0 " + number + "\"]" + number + ". Kb1 *"), 0);
        }
        for (String number : new String[] {"", "-", "0", "00", "01", "001", "010", "1000", "9999", "0001", "-1", "+1", "1.", "a", "1a"}) {
            wrong(fields + "0 " + number);
        }
    }

    private static void kingsAndPawns() {
        sound("k7/8/8/8/8/8/8/K7 w - - 0 1");
        for (String men : new String[] {"8/8/8/8/8/8/8/8", "k7/8/8/8/8/8/8/8", "8/8/8/8/8/8/8/K7", "k6k/8/8/8/8/8/8/K7", "k7/8/8/8/8/8/8/K6K",
            "k7/8/8/K7/8/8/8/K7", "K7/8/8/8/8/8/8/K7", "k7/8/8/8/8/8/8/k7", "k1kk4/8/8/8/8/8/8/K7"}) {
            wrong(men + " w - - 0 1");
            wrong(men + " b - - 0 1");
        }
        for (String pawn : new String[] {"P", "p"}) {
            for (String row : new String[] {"x7", "7x", "3x4"}) {
                String rank = row.replace("x", pawn);
                wrong(rank + "/8/1k6/8/8/1K6/8/8 w - - 0 1");
                wrong("8/8/1k6/8/8/1K6/8/" + rank + " w - - 0 1");
                sound("8/" + rank + "/1k6/8/8/1K6/8/8 " + (pawn.equals("P") ? "b" : "w") + " - - 0 1");
                sound("8/8/1k6/8/8/1K6/" + rank + "/8 " + (pawn.equals("P") ? "b" : "w") + " - - 0 1");
            }
        }
        sound("4k3/pppppppp/8/8/8/8/PPPPPPPP/4K3 b - - 0 1");
        sound("QQQQ1QQQ/QQQQQQQQ/QQQQQQQQ/QQQQkQQQ/QQQQQQQQ/QQQQQQQQ/QQQQQQQQ/QQQQKQQQ b - - 999 999");
    }

    private static void notToMoveInCheck() {
        String[] men = {"8/8/8/4k3/3P4/8/8/K7", "8/8/8/4k3/8/3N4/8/K7", "8/8/8/4k3/8/8/1B6/K7", "8/8/8/4k3/8/8/4R3/K7", "8/8/8/Q3k3/8/8/8/K7",
            "8/8/8/4k3/4K3/8/8/8"};
        for (String checked : men) {
            wrong(checked + " w - - 0 1");
            if (!checked.contains("4k3/4K3")) {
                sound(checked + " b - - 0 1");
            } else {
                wrong(checked + " b - - 0 1");
            }
        }
        String[] blacks = {"k7/8/8/3p4/4K3/8/8/8", "k7/8/8/2n5/4K3/8/8/8", "k7/8/6b1/8/4K3/8/8/8", "k3r3/8/8/8/4K3/8/8/8", "k7/8/8/8/q3K3/8/8/8"};
        for (String checked : blacks) {
            wrong(checked + " b - - 0 1");
            sound(checked + " w - - 0 1");
        }
        for (String open : new String[] {"8/8/8/4k3/4P3/8/8/K7", "8/8/3P4/4k3/8/8/8/K7", "8/8/8/4k3/8/4N3/8/K7", "8/8/8/4k3/3p4/2B5/8/7K",
            "8/8/8/4k3/4p3/8/4R3/K7", "8/8/8/Qp2k3/8/8/8/K7", "8/8/8/4k3/8/4K3/8/8", "7k/P7/8/8/8/8/8/K7"}) {
            sound(open + " w - - 0 1");
        }
    }

    private static void rightsInTheText() {
        String men = "r3k2r/8/8/8/8/8/8/R3K2R w ";
        for (int rights = 0; rights < 16; rights++) {
            StringBuilder text = new StringBuilder();
            for (int i = 0; i < 4; i++) {
                text.append((rights >> i & 1) == 1 ? "KQkq".substring(i, i + 1) : "");
            }
            sound(men + (rights == 0 ? "-" : text) + " - 0 1");
        }
        for (String rights : new String[] {"", "QK", "kK", "qK", "kQ", "qQ", "qk", "KK", "KQkqK", "KQkq-", "-K", "--", "x", "KQx", "kqKQ", "KqQ", "0"}) {
            wrong(men + rights + " - 0 1");
        }
        String[] rights = {"K", "Q", "k", "q"};
        String[] whole = {"4k3/8/8/8/8/8/8/4K2R", "4k3/8/8/8/8/8/8/R3K3", "4k2r/8/8/8/8/8/8/4K3", "r3k3/8/8/8/8/8/8/4K3"};
        String[][] spoiled = {
            {"4k3/8/8/8/8/8/8/4K3", "4k3/8/8/8/8/8/8/4K1R1", "4k3/8/8/8/8/8/8/3K3R", "4k3/8/8/8/8/8/8/5K1R", "4k3/8/8/8/8/8/8/4K2N", "4k3/8/8/8/8/8/7R/4K3",
                "4k2r/8/8/8/8/8/8/4K3", "4k3/8/8/8/8/8/8/R3K3", "4k3/8/8/8/8/8/4K3/7R"},
            {"4k3/8/8/8/8/8/8/4K3", "4k3/8/8/8/8/8/8/1R2K3", "4k3/8/8/8/8/8/8/R2K4", "4k3/8/8/8/8/8/8/R4K2", "4k3/8/8/8/8/8/8/N3K3", "4k3/8/8/8/8/8/R7/4K3",
                "r3k3/8/8/8/8/8/8/4K3", "4k3/8/8/8/8/8/8/4K2R"},
            {"4k3/8/8/8/8/8/8/4K3", "4k1r1/8/8/8/8/8/8/4K3", "3k3r/8/8/8/8/8/8/4K3", "5k1r/8/8/8/8/8/8/4K3", "4k2n/8/8/8/8/8/8/4K3", "4k3/7r/8/8/8/8/8/4K3",
                "r3k3/8/8/8/8/8/8/4K3", "4k3/8/8/8/8/8/8/4K2R"},
            {"4k3/8/8/8/8/8/8/4K3", "1r2k3/8/8/8/8/8/8/4K3", "r2k4/8/8/8/8/8/8/4K3", "r4k2/8/8/8/8/8/8/4K3", "n3k3/8/8/8/8/8/8/4K3", "4k3/r7/8/8/8/8/8/4K3",
                "4k2r/8/8/8/8/8/8/4K3", "4k3/8/8/8/8/8/8/R3K3"}};
        for (int i = 0; i < 4; i++) {
            sound(whole[i] + " w " + rights[i] + " - 0 1");
            sound(whole[i] + " b " + rights[i] + " - 0 1");
            for (String men2 : spoiled[i]) {
                wrong(men2 + " w " + rights[i] + " - 0 1");
                wrong(men2 + " b " + rights[i] + " - 0 1");
            }
        }
        wrong("4k3/8/8/8/8/8/8/4K2r w K - 0 1");
        wrong("4k3/8/8/8/8/8/8/r3K3 w Q - 0 1");
        wrong("4k2R/8/8/8/8/8/8/4K3 b k - 0 1");
        wrong("R3k3/8/8/8/8/8/8/4K3 b q - 0 1");
    }

    private static void passedSquareInTheText() {
        for (int file = 0; file < 8; file++) {
            for (int beside = -1; beside <= 1; beside += 2) {
                if (file + beside < 0 || file + beside > 7) {
                    continue;
                }
                String row = row(file, 'p', file + beside, 'P');
                sound("7k/8/8/" + row + "/8/8/8/7K w - " + (char) ('a' + file) + "6 0 1");
                String low = row(file, 'P', file + beside, 'p');
                sound("7k/8/8/8/" + low + "/8/8/7K b - " + (char) ('a' + file) + "3 0 1");
            }
        }
        String right = "7k/8/8/3pP3/8/8/8/7K w - d6 0 1";
        sound(right);
        wrong(right.replace(" w ", " b "));
        for (String square : new String[] {"d1", "d2", "d3", "d4", "d5", "d7", "d8", "c6", "e6", "f6", "a6", "h6"}) {
            wrong(right.replace("d6", square));
        }
        for (String man : new String[] {"n", "N", "p", "P", "r"}) {
            wrong("7k/8/3" + man + "4/3pP3/8/8/8/7K w - d6 0 1");
            wrong("7k/3" + man + "4/8/3pP3/8/8/8/7K w - d6 0 1");
            wrong("7k/8/8/8/3Pp3/3" + man + "4/8/7K b - d3 0 1");
            wrong("7k/8/8/8/3Pp3/8/3" + man + "4/7K b - d3 0 1");
        }
        for (String row : new String[] {"3nP3", "3PP3", "3rP3", "4P3", "3p4", "3pp3", "3pN3", "2pP4", "3p1P2", "1P1p4", "3pn3"}) {
            wrong("7k/8/8/" + row + "/8/8/8/7K w - d6 0 1");
        }
        for (String row : new String[] {"3Np3", "3pp3", "4p3", "3P4", "3PP3", "3Pn3", "3P1p2", "1p1P4"}) {
            wrong("7k/8/8/8/" + row + "/8/8/7K b - d3 0 1");
        }
        wrong("7k/8/8/p6P/8/8/8/7K w - a6 0 1");
        wrong("7k/8/8/p7/7P/8/8/6K1 w - a6 0 1");
        wrong("7k/8/P7/7p/8/8/8/7K w - h6 0 1");
        wrong("7k/8/8/8/P6p/8/8/7K b - a3 0 1");
        sound("8/8/8/K2pP2r/8/8/8/7k w - d6 0 1");
        sound("7k/8/8/2PpP3/8/8/8/7K w - d6 0 1");
    }

    private static String row(int first, char man, int second, char other) {
        StringBuilder all = new StringBuilder();
        int empty = 0;
        for (int file = 0; file < 8; file++) {
            if (file != first && file != second) {
                empty++;
                continue;
            }
            all.append(empty == 0 ? "" : "" + empty).append(file == first ? man : other);
            empty = 0;
        }
        return all.append(empty == 0 ? "" : "" + empty).toString();
    }
}
