/** The signs of a move, as they are told and in which ways they are read, sentence by sentence. */
public final class SignsEdgesTest {
    public static void main(String[] args) {
        castlingSigns();
        pawnSigns();
        becomingSigns();
        toldApart();
        toldApartLegally();
        checkOrMate();
        readPawns();
        readOtherMen();
        readTaking();
        readBecoming();
        readCheck();
        readCastling();
        readJustOne();
        almost();
        longestSigns();
        Check.close("SignsEdgesTest");
    }

    private static void told(String fen, String squares, int becomes, String due) {
        MoveTexts x = Check.position(fen);
        Check.due("signs of " + squares + " in " + fen, Check.signs(x, Check.move(squares, becomes)), due);
        Check.due("they are read again", Check.find(x, due), Check.move(squares, becomes));
    }

    private static void told(String fen, String squares, String due) {
        told(fen, squares, 0, due);
    }

    private static void found(String fen, String squares, int becomes, String... ways) {
        for (String way : ways) {
            Check.due("find of " + way + " in " + fen, Check.find(Check.position(fen), way), Check.move(squares, becomes));
        }
    }

    private static void found(String fen, String squares, String way) {
        found(fen, squares, 0, way);
    }

    private static void none(String fen, String... ways) {
        for (String way : ways) {
            Check.due("find of " + way + " in " + fen, Check.find(Check.position(fen), way), MoveTexts.NONE);
        }
    }

    private static void almost(String fen, String... ways) {
        for (String way : ways) {
            Check.due("find of " + way + " in " + fen, Check.find(Check.position(fen), way), -2);
        }
    }

    private static void castlingSigns() {
        String white = "1k6/8/8/8/8/8/8/R3K2R w KQ - 0 1";
        told(white, "e1g1", "O-O");
        told(white, "e1c1", "O-O-O");
        String black = "r3k2r/8/8/8/8/8/8/1K6 b kq - 0 1";
        told(black, "e8g8", "O-O");
        told(black, "e8c8", "O-O-O");
        told("5k2/8/8/8/8/8/8/4K2R w K - 0 1", "e1g1", "O-O+");
        told("3k4/8/8/8/8/8/8/R3K3 w Q - 0 1", "e1c1", "O-O-O+");
        told("2rkr3/2p1p3/8/8/8/8/8/R3K3 w Q - 0 1", "e1c1", "O-O-O#");
        told("4rkr1/4p1p1/8/8/8/8/8/4K2R w K - 0 1", "e1g1", "O-O#");
        told(white, "e1f1", "Kf1");
        told(white, "e1d1", "Kd1");
        told("1k6/8/8/8/8/8/8/4R1K1 w - - 0 1", "e1c1", "Rc1");
        told("4q1k1/8/8/8/8/8/8/1K6 b - - 0 1", "e8c8", "Qc8");
    }

    private static void pawnSigns() {
        String white = "7k/8/8/2pPpp2/4P3/8/P7/K7 w - c6 0 1";
        told(white, "a2a3", "a3");
        told(white, "a2a4", "a4");
        told(white, "d5d6", "d6");
        told(white, "d5c6", "dxc6");
        told(white, "e4f5", "exf5");
        String black = "7k/p7/8/4p3/2PpPP2/8/8/K7 b - c3 0 1";
        told(black, "a7a5", "a5");
        told(black, "d4c3", "dxc3");
        told(black, "d4d3", "d3");
        told(black, "e5f4", "exf4");
        String both = "7k/8/8/3p4/2P1P3/8/8/K7 w - - 0 1";
        told(both, "c4d5", "cxd5");
        told(both, "e4d5", "exd5");
        String passing = "7k/8/8/3PpP2/8/8/8/K7 w - e6 0 1";
        told(passing, "d5e6", "dxe6");
        told(passing, "f5e6", "fxe6");
    }

    private static void becomingSigns() {
        String[] letters = {"N", "B", "R", "Q"};
        for (int m = 2; m <= 5; m++) {
            String letter = letters[m - 2];
            told("1n6/P7/7k/8/8/8/8/K7 w - - 0 1", "a7a8", m, "a8=" + letter);
            told("1r6/P7/7k/8/8/8/8/K7 w - - 0 1", "a7b8", m, "axb8=" + letter);
            told("k7/8/8/8/8/7K/p7/1R6 b - - 0 1", "a2b1", m, "axb1=" + letter);
            told("6k1/P4ppp/8/8/8/8/8/K7 w - - 0 1", "a7a8", m, "a8=" + letter + (m > 3 ? "#" : ""));
            told("6k1/P4pp1/8/8/8/8/8/K7 w - - 0 1", "a7a8", m, "a8=" + letter + (m > 3 ? "+" : ""));
        }
    }

    private static void toldApart() {
        String neither = "7k/8/8/8/8/1N6/8/K4N2 w - - 0 1";
        told(neither, "b3d2", "Nbd2");
        told(neither, "f1d2", "Nfd2");
        told(neither, "f1e3", "Ne3");
        String sameFile = "7k/8/8/8/8/1N6/8/KN6 w - - 0 1";
        told(sameFile, "b3d2", "N3d2");
        told(sameFile, "b1d2", "N1d2");
        told(sameFile, "b1c3", "Nc3");
        String sameRank = "7k/8/8/8/8/1N3N2/8/K7 w - - 0 1";
        told(sameRank, "b3d2", "Nbd2");
        told(sameRank, "f3d2", "Nfd2");
        String both = "7k/8/8/8/8/1N3N2/8/KN6 w - - 0 1";
        told(both, "b3d2", "Nb3d2");
        told(both, "b1d2", "N1d2");
        told(both, "f3d2", "Nfd2");
        told(both, "b3d4", "Nbd4");
        String fileAndNeither = "7k/8/8/8/8/1N6/8/KN3N2 w - - 0 1";
        told(fileAndNeither, "b3d2", "N3d2");
        told(fileAndNeither, "f1d2", "Nfd2");
        told(fileAndNeither, "b1d2", "Nb1d2");
        String taking = "7k/8/8/8/8/1N3N2/3p4/KN6 w - - 0 1";
        told(taking, "b3d2", "Nb3xd2");
        told(taking, "b1d2", "N1xd2");
        told(taking, "f3d2", "Nfxd2");
        told("7k/8/8/8/8/8/K6p/R6R w - - 0 1", "a1d1", "Rad1");
        told("7k/8/8/8/7p/8/K7/R6R w - - 0 1", "h1d1", "Rhd1");
        told("6k1/8/8/8/8/8/8/B1B3K1 w - - 0 1", "a1b2", "Bab2");
        told("6k1/8/8/8/8/B7/8/B5K1 w - - 0 1", "a3b2", "B3b2");
        told("6k1/8/8/8/8/B7/8/B1B3K1 w - - 0 1", "a1b2", "Ba1b2");
        told("7k/8/8/8/8/1n3N2/8/6K1 b - - 0 1", "b3d2", "Nd2");
        told("7k/8/8/8/8/1Q3N2/8/K7 w - - 0 1", "f3d4", "Nd4");
    }

    private static void toldApartLegally() {
        told("4r2k/8/8/8/8/8/4N3/1N2K3 w - - 0 1", "b1c3", "Nc3");
        told("3r3k/8/8/8/8/8/4N3/1N2K3 w - - 0 1", "b1c3", "Nbc3");
        told("4r2k/8/8/8/4R3/8/8/R3K3 w - - 0 1", "a1a4", "Ra4");
        told("4r2k/8/8/8/4R3/8/8/R2K4 w - - 0 1", "a1a4", "Raa4");
        told("4r2k/8/8/8/4R3/8/8/R3K3 w - - 0 1", "e4e3", "Re3");
        told("k7/8/8/8/1b6/8/3N4/4KN2 w - - 0 1", "f1e3", "Ne3");
        told("4r2k/8/8/R7/4R3/8/8/4K3 w - - 0 1", "a5e5", "Rae5");
        told("4r2k/8/8/R7/4R3/8/8/4K3 w - - 0 1", "e4e5", "Ree5");
        told("4r2k/8/8/R7/4R3/8/8/4K3 w - - 0 1", "a5a4", "Ra4");
        told("R6R/8/1k6/8/8/8/8/K7 w - - 0 1", "a8d8", "Rad8");
        told("R6R/8/1k6/8/8/8/8/K7 w - - 0 1", "h8d8", "Rhd8");
        told("8/8/1k6/8/8/8/8/R2K3R w - - 0 1", "h1h8", "Rh8");
        told("k7/8/8/8/1b6/2N5/8/4K1N1 w - - 0 1", "g1e2", "Ne2");
        told("k7/8/8/8/8/2N5/8/4K1N1 w - - 0 1", "g1e2", "Nge2");
    }

    private static void checkOrMate() {
        told("6k1/5ppp/8/8/8/8/8/R5K1 w - - 0 1", "a1a8", "Ra8#");
        told("6k1/5pp1/8/8/8/8/8/R5K1 w - - 0 1", "a1a8", "Ra8+");
        told("6k1/5ppp/8/8/8/8/8/R5K1 w - - 0 1", "a1a7", "Ra7");
        told("r5k1/5ppp/8/8/8/8/5PPP/6K1 b - - 0 1", "a8a1", "Ra1#");
        told("6k1/5ppp/3b4/8/8/8/8/R5K1 w - - 0 1", "a1a8", "Ra8+");
        told("7k/8/6K1/8/8/8/5Q2/8 w - - 0 1", "f2f7", "Qf7");
        told("7k/8/6K1/8/8/8/5Q2/8 w - - 0 1", "f2f8", "Qf8#");
        told("7k/8/8/8/3N4/2B5/8/K7 w - - 0 1", "d4e2", "Ne2+");
        told("8/8/7R/3k4/3p4/6B1/4P3/K1R1R3 w - - 0 1", "e2e4", "e4+");
        told("8/8/7R/3k4/3n4/6B1/4P3/K1R1R3 w - - 0 1", "e2e4", "e4#");
        told("8/8/7R/3k4/3p4/6B1/4P3/K1R1R3 w - - 0 1", "e2e3", "e3");
        told("8/8/8/8/8/5k2/8/4K2R w K - 0 1", "e1g1", 0, "O-O+");
        told("k7/2K5/8/8/8/8/8/1R6 w - - 0 1", "b1a1", "Ra1#");
        told("k7/2K5/8/8/8/8/8/1R6 w - - 0 1", "b1b8", "Rb8+");
        told("5rk1/5p2/8/8/8/8/2B5/K4R2 w - - 0 1", "f1g1", "Rg1+");
        told("5rk1/5p2/8/8/8/8/1BB5/K4R2 w - - 0 1", "f1g1", "Rg1#");
        told("k4r2/2b5/8/8/8/8/5P2/5RK1 b - - 0 1", "f8g8", "Rg8+");
        told("1k3r2/2b5/1b6/8/8/8/6PP/5R1K b - - 0 1", "f8f1", "Rxf1#");
    }

    private static final String FIRST = "rnbqkbnr/pppppppp/8/8/8/8/PPPPPPPP/RNBQKBNR w KQkq - 0 1";

    private static void readPawns() {
        found(FIRST, "e2e4", 0, "e4", "ee4");
        none(FIRST, "de4", "fe4", "2e4", "e2e4", "e2-e4", "e2", "e5", "e9", "i4", "e", "4", "ee", "eee4", "Pe4", "pe4", "E4", "e4e.p.", "e 4");
        String takes = "7k/8/8/3pP3/3P4/8/8/K7 w - d6 0 1";
        found(takes, "e5d6", 0, "exd6");
        none(takes, "xd6", "d6", "dxd6", "cxd6", "e5xd6", "5xd6", "exd6e.p.", "exd6ep", "dd6", "d5", "dd5", "dxd5", "exd5");
        found(takes, "e5e6", 0, "e6", "ee6");
        none(takes, "de6", "fe6", "dxe6");
        String black = "7k/8/8/8/3pP3/8/8/K7 b - e3 0 1";
        found(black, "d4e3", 0, "dxe3");
        found(black, "d4d3", 0, "d3", "dd3");
        none(black, "e3", "xe3", "ed3");
    }

    private static void readOtherMen() {
        found(FIRST, "g1f3", 0, "Nf3", "Ngf3", "N1f3", "Ng1f3");
        none(FIRST, "Nbf3", "Nff3", "N2f3", "N3f3", "Ng2f3", "Nf1f3", "N1gf3", "Nggf3", "N11f3", "Ng1gf3", "Ng11f3", "nf3", "Sf3", "g1f3", "Ng1-f3",
            "N", "Nf", "N3", "Nf0", "Nf9", "Ni3", "Nf33", "N f3", "Bf3", "Kf3", "Qd3", "Rh3", "Kd1", "Ke2");
        String king = "7k/8/8/8/8/8/8/K7 w - - 0 1";
        found(king, "a1b2", 0, "Kb2", "Kab2", "K1b2", "Ka1b2");
        none(king, "Kbb2", "K2b2", "Kb3", "Ka1", "Kxxb3");
    }

    private static void readTaking() {
        String men = "7k/8/8/8/3p4/1N6/8/K7 w - - 0 1";
        found(men, "b3d4", 0, "Nxd4", "Nbxd4", "N3xd4", "Nb3xd4");
        almost(men, "Nd4", "Nbd4", "N3d4", "Nb3d4", "Nxxd4", "Nxbd4", "Ndx4", "Nd4x", "xNd4");
        found(men, "b3d2", 0, "Nd2", "Nbd2", "N3d2", "Nb3d2");
        almost(men, "Nxd2", "Nbxd2", "N3xd2", "Nb3xd2");
        String pawn = "7k/8/8/3p4/4P3/8/8/K7 w - - 0 1";
        found(pawn, "e4d5", "exd5");
        almost(pawn, "ed5", "edx5", "xed5", "exxd5");
        found(pawn, "e4e5", "e5");
        almost(pawn, "xe5", "exe5", "ex5");
        none(pawn, "d5", "xd5", "dxe5", "fxe5");
    }

    private static void readBecoming() {
        String men = "1n5k/P7/8/8/8/8/8/KN6 w - - 0 1";
        String[] letters = {"N", "B", "R", "Q"};
        for (int m = 2; m <= 5; m++) {
            found(men, "a7a8", m, "a8=" + letters[m - 2], "aa8=" + letters[m - 2]);
            found(men, "a7b8", m, "axb8=" + letters[m - 2]);
            almost(men, "ab8=" + letters[m - 2], "xa8=" + letters[m - 2], "a8=x" + letters[m - 2], "a8+=" + letters[m - 2]);
            none(men, "b8=" + letters[m - 2], "a8" + letters[m - 2], "Nc3=" + letters[m - 2], "Ka2=" + letters[m - 2], "a8==" + letters[m - 2],
                "a8=" + letters[m - 2].toLowerCase(), "a8=" + letters[m - 2] + letters[m - 2], "a8(" + letters[m - 2] + ")", "a8/" + letters[m - 2]);
        }
        none(men, "a8", "aa8", "axb8", "a8=", "a8=K", "a8=P", "a8=1", "a8=x", "a8=+", "=Q", "=", "a=Q", "8=Q");
        none(FIRST, "e4=Q", "e4=N", "e4=", "Nf3=Q");
        String black = "k7/8/8/8/8/8/p7/7K b - - 0 1";
        found(black, "a2a1", 5, "a1=Q", "a1=Q+", "aa1=Q");
        none(black, "a1", "a1=q", "a8=Q");
    }

    private static void readCheck() {
        String mate = "6k1/5ppp/8/8/8/8/8/R5K1 w - - 0 1";
        found(mate, "a1a8", 0, "Ra8", "Ra8#");
        almost(mate, "Ra8+", "Ra8##", "Ra8#+", "Ra8+#", "R#a8", "#Ra8");
        found(mate, "a1a7", 0, "Ra7");
        almost(mate, "Ra7+", "Ra7#");
        String check = "6k1/5pp1/8/8/8/8/8/R5K1 w - - 0 1";
        found(check, "a1a8", 0, "Ra8", "Ra8+");
        almost(check, "Ra8#", "Ra8++", "Ra+8");
        String castles = "5k2/8/8/8/8/8/8/4K2R w K - 0 1";
        found(castles, "e1g1", 0, "O-O", "O-O+");
        almost(castles, "O-O#", "O-O++", "O+-O", "xO-O");
        String becomes = "6k1/P4ppp/8/8/8/8/8/K7 w - - 0 1";
        found(becomes, "a7a8", 5, "a8=Q", "a8=Q#");
        almost(becomes, "a8=Q+", "a8#=Q");
    }

    private static void readCastling() {
        String white = "r3k2r/8/8/8/8/8/8/R3K2R w KQkq - 0 1";
        found(white, "e1g1", "O-O");
        found(white, "e1c1", "O-O-O");
        found(white.replace(" w ", " b "), "e8g8", "O-O");
        found(white.replace(" w ", " b "), "e8c8", "O-O-O");
        none(white, "Kg1", "Kc1", "Keg1", "K1g1", "Ke1g1", "Kxg1", "0-0", "0-0-0", "o-o", "OO", "OOO", "O", "O-", "-O", "O-O-", "O-O-O-", "O-O-O-O", "O--O",
            "O-0", "KO-O", "O-O1", "O-O=Q", "Kb1");
        none(white.replace("KQkq", "Qkq"), "O-O");
        found(white.replace("KQkq", "Qkq"), "e1c1", "O-O-O");
        none(white.replace("KQkq", "Kkq"), "O-O-O", "O-O-O+");
        none("k7/8/8/8/8/8/8/2K1R3 w - - 0 1", "O-O", "O-O-O");
        none("k7/8/8/8/8/8/8/4Q2K w - - 0 1", "O-O", "O-O-O");
    }

    private static void readJustOne() {
        String two = "7k/8/8/8/8/1N3N2/8/K7 w - - 0 1";
        none(two, "Nd2", "Nd4", "N3d2", "N3d4");
        found(two, "b3d2", 0, "Nbd2", "Nb3d2");
        found(two, "f3d2", 0, "Nfd2", "Nf3d2");
        found(two, "b3a5", 0, "Na5", "Nba5", "N3a5");
        String file = "7k/8/8/8/8/1N6/8/KN6 w - - 0 1";
        none(file, "Nd2", "Nbd2");
        found(file, "b3d2", 0, "N3d2", "Nb3d2");
        String pinned = "4r2k/8/8/8/8/8/4N3/1N2K3 w - - 0 1";
        found(pinned, "b1c3", 0, "Nc3", "Nbc3", "N1c3", "Nb1c3");
        none(pinned, "Nec3", "N2c3", "Ne2c3", "Ng3");
        String three = "7k/8/8/8/8/1N3N2/8/KN6 w - - 0 1";
        none(three, "Nd2", "Nbd2", "N3d2");
        found(three, "b3d2", 0, "Nb3d2");
        found(three, "b1d2", 0, "N1d2", "Nb1d2");
        String discovers = "7k/8/8/8/3N4/2B5/8/K1N5 w - - 0 1";
        none(discovers, "Ne2");
        found(discovers, "d4e2", 0, "Ne2+", "Nde2", "N4e2");
    }

    private static void almost() {
        String two = "7k/8/8/8/8/1N3N2/8/K7 w - - 0 1";
        none(two, "Nxd2", "Nd2+", "Nd2#", "N3xd2", "N3d2+");
        almost(two, "Nbxd2", "Nbd2+", "Nb3xd2#", "Na5+", "Nxa5");
        String takes = "7k/8/8/8/3p4/1N3N2/8/K7 w - - 0 1";
        none(takes, "Nd4", "Nxd4", "Nxd4+");
        almost(takes, "Nbd4", "Nfd4", "Nbxd4+");
        none(FIRST, "", "x", "+", "#", "x+#", "xxxx", "Nxd2", "Ng1", "exd3", "dxe3", "e5+", "Nf4x");
        almost(FIRST, "xe4", "e4+", "e4#", "e4x", "ex4", "exe4", "+e4", "Nxf3", "N+f3", "Nf+3", "Nf3++##xx", "x+#Nf3");
        String pawns = "7k/8/8/3p4/2P1P3/8/8/K7 w - - 0 1";
        almost(pawns, "cd5", "ed5", "cxd5+", "exd5#");
        none(pawns, "d5", "xd5", "d5+", "dd5");
    }

    /** No signs are longer than seven characters. */
    private static void longestSigns() {
        String queens = "7k/8/8/8/8/Q7/1n6/Q1Q4K w - - 0 1";
        told(queens, "a1b2", "Qa1xb2+");
        found(queens, "a1b2", 0, "Qa1xb2+", "Qa1xb2");
        almost(queens, "Qa1b2", "Qa1b2+", "Qa1xb2#", "Qa1xb2++", "Qa1xb2+x", "Qxaxxx1+b##2", "Qa1xb2" + "+".repeat(1000));
        none(queens, "Qxb2+", "Qaxb2+", "Q1xb2+", "Qa1xb22", "Qa1xb2+2", "Qa1xb2+ ", "Qa1xb2+Qa1xb2+", "Qa1xb2+" + "z".repeat(1000));
        String pawn = "r6k/1P6/8/8/8/8/8/K7 w - - 0 1";
        told(pawn, "b7a8", 5, "bxa8=Q+");
        almost(pawn, "bxa8=Q++", "bxa8=Q#", "ba8=Q+", "bxa8=Q+x");
        none(pawn, "bxa8=QQ", "bxa8=Q+Q", "bxa8=Q+1", "b7xa8=Q+", "bxa8=Q+ ");
    }
}
