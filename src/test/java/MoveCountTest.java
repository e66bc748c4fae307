/**
 * How many legal moves there are in a position, behind each of them, and behind each of those: numbers
 * that are well known for these positions, and that every rule of moving has a part in (promises 16, 17).
 */
public final class MoveCountTest {
    public static void main(String[] args) {
        counts("rnbqkbnr/pppppppp/8/8/8/8/PPPPPPPP/RNBQKBNR w KQkq - 0 1", 20, 400, 8902);
        counts("r3k2r/p1ppqpb1/bn2pnp1/3PN3/1p2P3/2N2Q1p/PPPBBPPP/R3K2R w KQkq - 0 1", 48, 2039, 97862);
        counts("8/2p5/3p4/KP5r/1R3p1k/8/4P1P1/8 w - - 0 1", 14, 191, 2812);
        counts("r3k2r/Pppp1ppp/1b3nbN/nP6/BBP1P3/q4N2/Pp1P2PP/R2Q1RK1 w kq - 0 1", 6, 264, 9467);
        counts("r2q1rk1/pP1p2pp/Q4n2/bbp1p3/Np6/1B3NBn/pPPP1PPP/R3K2R b KQ - 0 1", 6, 264, 9467);
        counts("rnbq1k1r/pp1Pbppp/2p5/8/2B5/8/PPP1NnPP/RNBQK2R w KQ - 1 8", 44, 1486, 62379);
        counts("r4rk1/1pp1qppp/p1np1n2/2b1p1B1/2B1P1b1/P1NP1N2/1PP1QPPP/R4RK1 w - - 0 10", 46, 2079, 89890);
        Check.close("MoveCountTest");
    }

    private static void counts(String fen, int one, int two, int three) {
        Check.due("moves in " + fen, count(fen, 1), one);
        Check.due("lines of two in " + fen, count(fen, 2), two);
        Check.due("lines of three in " + fen, count(fen, 3), three);
    }

    /** A new object for each line, as one is used for 512 calls at most. */
    private static long count(String fen, int length, int... line) {
        MoveTexts x = Check.position(fen);
        for (int move : line) {
            x.add(move);
        }
        int moves = moves(x);
        if (length == 1) {
            return moves;
        }
        long all = 0;
        for (int k = 0; k < moves; k++) {
            int[] longer = java.util.Arrays.copyOf(line, line.length + 1);
            longer[line.length] = x.move(k);
            all += count(fen, length - 1, longer);
        }
        return all;
    }

    /** The least k for which there is no move. */
    private static int moves(MoveTexts x) {
        int least = 0;
        int most = 256;
        while (least < most) {
            int middle = (least + most) / 2;
            if (x.move(middle) == MoveTexts.NONE) {
                most = middle;
            } else {
                least = middle + 1;
            }
        }
        return least;
    }
}
