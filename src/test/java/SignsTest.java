/** Promises 5, 7 and 8: find, signs, out. */
public final class SignsTest {
    public static void main(String[] args) {
        plainSigns();
        whatTellsApart();
        checkAndMate();
        notLegal();
        outKeepsAndEnds();
        readInAllWays();
        almost();
        justOneFits();
        allMovesAreReadAgain();
        Check.close("SignsTest");
    }

    private static void signs(String fen, String squares, int becomes, String due) {
        MoveTexts x = Check.position(fen);
        Check.due("signs of " + squares + " in " + fen, Check.signs(x, Check.move(squares, becomes)), due);
        Check.due("find of " + due + " in " + fen, Check.find(x, due), Check.move(squares, becomes));
    }

    private static void signs(String fen, String squares, String due) {
        signs(fen, squares, 0, due);
    }

    private static void plainSigns() {
        String first = "rnbqkbnr/pppppppp/8/8/8/8/PPPPPPPP/RNBQKBNR w KQkq - 0 1";
        signs(first, "e2e4", "e4");
        signs(first, "g1f3", "Nf3");
        String open = "r3k2r/1P4P1/8/3pP3/8/8/8/R3K2R w KQkq d6 0 37";
        signs(open, "e1g1", "O-O");
        signs(open, "e1c1", "O-O-O");
        signs(open, "e5d6", "exd6");
        signs(open, "e5e6", "e6");
        signs(open, "a1a8", "Rxa8+");
        signs(open, "e1e2", "Ke2");
        signs(open, "b7a8", 5, "bxa8=Q+");
        signs(open, "b7a8", 2, "bxa8=N");
        signs(open, "b7b8", 3, "b8=B");
        signs(open, "g7g8", 4, "g8=R+");
        signs("5k2/8/8/8/8/8/8/R3K2R w KQ - 0 1", "e1g1", "O-O+");
        signs("3k4/8/8/8/8/8/8/R3K2R w KQ - 0 1", "e1c1", "O-O-O+");
        signs("2bqkb2/8/8/8/8/8/8/4K3 b - - 0 1", "f8a3", "Ba3");
        signs("4k3/8/8/8/8/8/5p2/4N2K b - - 0 1", "f2e1", 5, "fxe1=Q+");
    }

    private static void whatTellsApart() {
        String knights = "7k/8/8/8/8/1N3N2/8/K7 w - - 0 1";
        signs(knights, "b3d2", "Nbd2");
        signs(knights, "b3d4", "Nbd4");
        signs(knights, "b3a5", "Na5");
        String rooks = "R7/7k/8/8/8/8/8/R6K w - - 0 1";
        signs(rooks, "a1a4", "R1a4");
        signs(rooks, "a8a4", "R8a4");
        signs(rooks, "a8b8", "Rb8");
        String queens = "1k6/8/8/8/4Q2Q/8/K7/7Q w - - 0 1";
        signs(queens, "h4e1", "Qh4e1");
        signs(queens, "h1e1", "Q1e1");
        signs(queens, "e4e1", "Qee1");
        signs(queens, "h4d8", "Qd8+");
        String pinned = "4r2k/8/8/8/8/8/4N3/1N2K3 w - - 0 1";
        signs(pinned, "b1c3", "Nc3");
        String freed = "6rk/8/8/8/8/8/4N3/1N2K3 w - - 0 1";
        signs(freed, "b1c3", "Nbc3");
        signs(freed, "e2c3", "Nec3");
        signs("7k/8/8/8/3p4/1N3N2/8/K7 w - - 0 1", "b3d4", "Nbxd4");
        signs("7k/8/8/8/8/1n3N2/8/7K w - - 0 1", "f3d4", "Nd4");
        signs("7k/8/8/8/8/1N3B2/8/K7 w - - 0 1", "f3d5", "Bd5");
        signs("7k/8/8/1N3N2/8/1N3N2/8/K7 w - - 0 1", "b3d4", "Nb3d4");
        signs("7k/8/8/2p1p3/3P4/8/8/K7 w - - 0 1", "d4c5", "dxc5");
    }

    private static void checkAndMate() {
        MoveTexts x = Check.game("f3 e5 g4 *");
        x.go(3);
        Check.due("mate", Check.signs(x, Check.move("d8h4")), "Qh4#");
        signs("7k/8/5KQ1/8/8/8/8/8 w - - 0 1", "g6g7", "Qg7#");
        signs("7k/8/5K2/6Q1/8/8/8/8 w - - 0 1", "g5h5", "Qh5+");
        signs("7k/8/6K1/5Q2/8/8/8/8 w - - 0 1", "f5f7", "Qf7");
        signs("6k1/5ppp/8/8/8/8/8/R5K1 w - - 0 1", "a1a8", "Ra8#");
        signs("6k1/5pp1/8/8/8/8/8/R5K1 w - - 0 1", "a1a8", "Ra8+");
        signs("1b4k1/5ppp/8/8/8/8/7P/R5K1 w - - 0 1", "a1a8", "Ra8");
        signs("3b2k1/5ppp/8/8/8/8/7P/4R1K1 w - - 0 1", "e1e8", "Re8#");
        signs("4b1k1/5ppp/8/8/8/8/7P/2R3K1 w - - 0 1", "c1c8", "Rc8");
        signs("8/8/8/8/8/1R6/k1K5/8 w - - 0 1", "b3b8", "Rb8");
        signs("8/8/8/8/8/2K5/7R/k7 w - - 0 1", "h2h1", "Rh1+");
        signs("2R5/8/8/8/4N3/1K6/8/1k6 w - - 0 1", "e4d2", "Nd2+");
        signs("k1K5/8/1B6/8/8/8/8/7R w - - 0 1", "h1a1", "Ra1#");
        signs("8/8/8/8/3pk3/8/4P3/R2K1R2 w - - 0 1", "f1f4", "Rf4+");
    }

    private static void notLegal() {
        MoveTexts x = Check.position("r3k2r/1P4P1/8/3pP3/8/8/8/R3K2R w KQkq d6 0 37");
        x.write();
        String before = Check.out(x);
        int[] wrong = {-1, 0, Integer.MIN_VALUE, Integer.MAX_VALUE, Check.move("e1e1"), Check.move("e1d3"), Check.move("b7a8"),
            Check.move("b7a8", 1), Check.move("b7a8", 6), Check.move("e5d6", 5), Check.move("e8g8"), Check.move("e4e5"),
            Check.move("e5f6"), Check.move("e1g1") + 4096 * 64, Check.move("e1g1") + (1 << 31), Check.move("a1h1"), 262148};
        for (int move : wrong) {
            Check.throwsDue("signs(" + move + ")", IllegalArgumentException.class, () -> x.signs(move));
        }
        Check.due("OUT stays", Check.out(x), before);
        MoveTexts pinned = Check.position("4r2k/8/8/8/8/8/4N3/1N2K3 w - - 0 1");
        Check.throwsDue("its king would be in check", IllegalArgumentException.class, () -> pinned.signs(Check.move("e2c3")));
    }

    private static void outKeepsAndEnds() {
        MoveTexts x = new MoveTexts();
        Check.due("nothing yet", x.out(0), 0);
        x.signs(Check.move("g1f3"));
        Check.due("N", x.out(0), 'N');
        Check.due("3", x.out(2), '3');
        for (int i : new int[] {3, 4, -1, Integer.MIN_VALUE, Integer.MAX_VALUE}) {
            Check.due("out(" + i + ")", x.out(i), 0);
        }
        x.add(Check.move("e2e4"));
        Check.due("OUT stays", Check.out(x), "Nf3");
        x.signs(Check.move("e7e5"));
        Check.due("something else", Check.out(x), "e5");
        x.write();
        Check.due("something else", Check.out(x), "1. e4 *");
    }

    private static void found(MoveTexts x, String squares, int becomes, String... ways) {
        for (String way : ways) {
            Check.due("find of " + way, Check.find(x, way), Check.move(squares, becomes));
        }
    }

    private static void notFound(MoveTexts x, String... ways) {
        for (String way : ways) {
            Check.due("find of " + way, Check.find(x, way), MoveTexts.NONE);
        }
    }

    private static void almostFound(MoveTexts x, String... ways) {
        for (String way : ways) {
            Check.due("find of " + way, Check.find(x, way), -2);
        }
    }

    private static void readInAllWays() {
        MoveTexts x = new MoveTexts();
        found(x, "e2e4", 0, "e4", "ee4");
        notFound(x, "de4", "fe4", "e2e4", "2e4", "e2-e4", "E4", "Pe4", "e5", "e", "4", "", " e4", "e4 ", "e4\n", "e4!", "e4=", "e4=Q");
        found(x, "g1f3", 0, "Nf3", "Ngf3", "N1f3", "Ng1f3");
        notFound(x, "Nbf3", "N2f3", "Ng2f3", "N1gf3", "Nggf3", "Ng11f3", "nf3", "N", "Nf", "N3", "Nf9", "Ni3", "g1f3", "Ng1-f3");
        MoveTexts y = Check.position("r3k2r/1P4P1/8/3pP3/8/8/8/R3K2R w KQkq d6 0 37");
        found(y, "e5d6", 0, "exd6");
        found(y, "e5e6", 0, "e6", "ee6");
        found(y, "e1g1", 0, "O-O");
        found(y, "e1c1", 0, "O-O-O");
        found(y, "b7a8", 5, "bxa8=Q", "bxa8=Q+");
        found(y, "b7b8", 2, "b8=N", "bb8=N");
        found(y, "a1a8", 0, "Rxa8", "Rxa8+", "Raxa8", "R1xa8", "Ra1xa8", "Ra1xa8+");
        found(y, "e1f1", 0, "Kf1", "Kef1", "K1f1", "Ke1f1");
        notFound(y, "Kg1", "Kc1", "Ke1g1", "0-0", "o-o", "O-O-", "O-O-O-O", "OO", "O", "b8", "bxa8", "b8Q", "b8=", "b8=K", "b8=P", "b8=q",
            "bxa8=QQ", "xd6", "d6", "e5xd6", "5xd6", "fxd6", "Rd1=Q", "O-O=Q");
    }

    private static void almost() {
        MoveTexts x = Check.position("r3k2r/1P4P1/8/3pP3/8/8/8/R3K2R w KQkq d6 0 37");
        almostFound(x, "ed6", "exd6+", "exd6#", "exxd6", "e6x", "xe6", "exe6", "e6+", "e6#", "e6++", "ba8=Q", "bxa8=Q#", "bxa8=+Q", "bx+a#8=Q+",
            "Ra8", "Ra8+", "Rxa8#", "Rx1a8", "xRa8", "O-O+", "O-O#", "O-xO", "#O-O-O", "+e6", "Ra1a8", "ex+#xx+d6", "xxxxxxxxxxxxxxxxxxxxxe6", "e6++++++++++++++++++++");
        notFound(x, "d6", "xd6", "d6+", "dxe6", "Kxg1", "x", "+", "#", "x+#", "Rxe6", "bxa8", "ba8", "e5xd6");
        MoveTexts mate = Check.position("6k1/5ppp/8/8/8/8/8/R5K1 w - - 0 1");
        found(mate, "a1a8", 0, "Ra8", "Ra8#");
        almostFound(mate, "Ra8+", "Rxa8", "Rxa8#", "Ra8##");
        MoveTexts check = Check.position("6k1/5pp1/8/8/8/8/8/R5K1 w - - 0 1");
        found(check, "a1a8", 0, "Ra8", "Ra8+");
        almostFound(check, "Ra8#", "Ra8++");
        MoveTexts y = new MoveTexts();
        Check.type(y, "e4+");
        Check.due("find", y.find(), -2);
        Check.due("the text stays", y.cut(3), true);
        Check.due("find again", y.find(), -2);
    }

    private static void justOneFits() {
        MoveTexts two = Check.position("7k/8/8/8/8/1N3N2/8/K7 w - - 0 1");
        notFound(two, "Nd2", "Nxd2", "Nd2+", "N3d2", "N3d4");
        found(two, "b3d2", 0, "Nbd2", "Nb3d2");
        almostFound(two, "Nbxd2", "Nfd4+");
        MoveTexts takes = Check.position("7k/8/8/8/3p4/1N3N2/8/K7 w - - 0 1");
        notFound(takes, "Nd4", "Nxd4", "N3xd4");
        almostFound(takes, "Nbd4");
        found(takes, "f3d4", 0, "Nfxd4", "Nf3xd4");
        MoveTexts checks = Check.position("7k/8/8/8/3N4/2B5/8/K1N5 w - - 0 1");
        notFound(checks, "Ne2", "Nb3");
        found(checks, "d4e2", 0, "Ne2+", "Nde2", "Nde2+");
        almostFound(checks, "Nce2+", "Nde2#");
        notFound(checks, "Ne2#");
        MoveTexts pinned = Check.position("4r2k/8/8/8/8/8/4N3/1N2K3 w - - 0 1");
        found(pinned, "b1c3", 0, "Nc3", "Nbc3", "N1c3", "Nb1c3");
        notFound(pinned, "Nec3", "N2c3");
        MoveTexts pawns = Check.position("7k/8/8/3p4/2P1P3/8/8/K7 w - - 0 1");
        found(pawns, "c4d5", 0, "cxd5");
        found(pawns, "e4d5", 0, "exd5");
        almostFound(pawns, "cd5", "ed5");
        notFound(pawns, "d5", "xd5", "dd5", "dxd5");
        MoveTexts rook = Check.position("7k/8/8/8/8/8/8/K3R3 w - - 0 1");
        notFound(rook, "O-O", "O-O-O");
        found(rook, "e1g1", 0, "Rg1");
        MoveTexts here = Check.game("e4 e5 *");
        here.go(1);
        found(here, "e7e5", 0, "e5");
        notFound(here, "Nf3");
    }

    /** The signs of each move are read as that move, with + and # left out, too. */
    private static void allMovesAreReadAgain() {
        String[] fens = {"rnbqkbnr/pppppppp/8/8/8/8/PPPPPPPP/RNBQKBNR w KQkq - 0 1",
            "r3k2r/p1ppqpb1/bn2pnp1/3PN3/1p2P3/2N2Q1p/PPPBBPPP/R3K2R w KQkq - 0 1",
            "r3k2r/Pppp1ppp/1b3nbN/nP6/BBP1P3/q4N2/Pp1P2PP/R2Q1RK1 w kq - 0 1",
            "8/1Q1Q1Q2/8/1Q3Q2/7k/1Q1Q1Q2/P7/K7 w - - 0 1", "1n1n1n2/P1P1P3/8/8/8/8/7k/K7 w - - 0 1"};
        for (String fen : fens) {
            MoveTexts x = Check.position(fen);
            for (int k = 0; x.move(k) != MoveTexts.NONE; k++) {
                String signs = Check.signs(x, x.move(k));
                Check.due("find of " + signs, Check.find(x, signs), x.move(k));
                String bare = signs.replace("+", "").replace("#", "");
                Check.due("find of " + bare, Check.find(x, bare), x.move(k));
                Check.due("find of " + signs + " with another sign", Check.find(x, bare + (signs.endsWith("+") ? "#" : "+")), -2);
            }
        }
    }
}
