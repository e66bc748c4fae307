/**
 * Games of chess as they are written: moves by their short signs, and whole game texts that are
 * read to a tree of moves, gone through, added to and written again. What each call promises
 * stands in the project's document.
 */
public final class MoveTexts {
    public static final int NONE = -1;

    private static final int WHITE = 0;
    private static final int BLACK = 1;
    private static final int EMPTY = 0;
    private static final int PAWN = 1;
    private static final int KNIGHT = 2;
    private static final int BISHOP = 3;
    private static final int ROOK = 4;
    private static final int QUEEN = 5;
    private static final int KING = 6;
    private static final int SQUARES = 64;
    private static final int WHITE_HOME = 4;
    private static final int BLACK_HOME = 60;
    private static final int MOST_TEXT = 2000;
    private static final int MOST_NODES = 300;
    private static final int MOST_DEEP = 6;
    private static final int MOST_MARKS = 4;
    private static final int GREATEST_MARK = 255;
    private static final int MOST_REMARK = 200;
    private static final int MOST_TAGS = 8;
    private static final int MOST_NAME = 12;
    private static final int MOST_VALUE = 96;
    private static final int RESULTS = 4;
    /** What reading signs answers when a move would fit but for x, + and #. */
    private static final int ALMOST = -2;
    private static final char LINE_END = '\n';
    private static final String MEN = "PNBRQK";

    private final Row text = new Row();
    private final Row out = new Row();
    private final Rules rules = new Rules();
    private final SignReader signReader = new SignReader();
    private final SignWriter signWriter = new SignWriter();
    private final GameReader gameReader = new GameReader();
    private final GameWriter gameWriter = new GameWriter();
    private Game game = new Game();
    private int here = 0;
    /** The position HERE. */
    private final Board board = new Board();

    public MoveTexts() {
        board.setUp();
    }

    public boolean type(long w, int n) {
        if (n < 1 || n > 8 || text.size() + n > MOST_TEXT) {
            return false;
        }
        for (int i = 0; i < n; i++) {
            char c = byteOf(w, i);
            if (c != LINE_END && (c < 32 || c > 126)) {
                return false;
            }
        }
        for (int i = 0; i < n; i++) {
            text.put(byteOf(w, i));
        }
        return true;
    }

    public boolean cut(int n) {
        if (n < 0 || n > text.size()) {
            return false;
        }
        text.keep(n);
        return true;
    }

    public int read() {
        gameReader.begin(text);
        if (!gameReader.readHead() || !gameReader.readMoves() || !gameReader.readEnd()) {
            return gameReader.fault();
        }
        game = gameReader.exchange(game);
        text.keep(0);
        here = 0;
        game.standAt(0, board);
        return 0;
    }

    public int find() {
        return signReader.matched(board, text, 0, text.size());
    }

    public int write() {
        out.keep(0);
        gameWriter.putHead(game, out);
        gameWriter.putLine(game, game.at(0).first, 0, out);
        gameWriter.putEnd(game, out);
        return out.size();
    }

    public int signs(int move) throws IllegalArgumentException {
        if (!rules.isLegal(board, move)) {
            throw new IllegalArgumentException("not a legal move");
        }
        out.keep(0);
        signWriter.putSigns(board, move, out);
        return out.size();
    }

    public int out(int i) {
        return out.at(i);
    }

    public int nodes() {
        return game.greatest;
    }

    public int node(int node, int what) throws IndexOutOfBoundsException {
        if (!game.has(node)) {
            throw new IndexOutOfBoundsException("no such node");
        }
        Node asked = game.at(node);
        switch (what) {
            case 0:
                return asked.parent;
            case 1:
                return asked.move;
            case 2:
                return asked.first;
            case 3:
                return asked.next;
            case 4:
                return asked.markCount;
            case 5:
                return asked.remark.size();
            default:
                throw new IndexOutOfBoundsException("no such part of a node");
        }
    }

    public int mark(int node, int k) throws IndexOutOfBoundsException {
        if (!game.has(node) || k < 0 || k >= game.at(node).markCount) {
            throw new IndexOutOfBoundsException("no such node or mark");
        }
        return game.at(node).markAt(k);
    }

    public int remark(int node, int k) throws IndexOutOfBoundsException {
        if (!game.has(node) || k < 0 || k >= game.at(node).remark.size()) {
            throw new IndexOutOfBoundsException("no such node or character");
        }
        return game.at(node).remark.at(k);
    }

    public int here() {
        return here;
    }

    public void go(int node) throws IndexOutOfBoundsException {
        if (!game.has(node)) {
            throw new IndexOutOfBoundsException("no such node");
        }
        here = node;
        game.standAt(node, board);
    }

    public int man(int square) throws IndexOutOfBoundsException {
        if (square < 0 || square >= SQUARES) {
            throw new IndexOutOfBoundsException("no such square");
        }
        return board.men[square];
    }

    public int move(int k) {
        return rules.legalMove(board, k);
    }

    public int add(int move) throws IllegalArgumentException, UnsupportedOperationException {
        if (!rules.isLegal(board, move)) {
            throw new IllegalArgumentException("not a legal move");
        }
        int child = game.childWith(here, move);
        if (child == NONE) {
            if (game.greatest >= MOST_NODES || game.deepOfNext(here) > MOST_DEEP) {
                throw new UnsupportedOperationException("no room for a new node");
            }
            child = game.grow(here, move);
        }
        here = child;
        board.play(move);
        return child;
    }

    public int addMark(int mark) throws IllegalArgumentException, IllegalStateException {
        if (mark < 0 || mark > GREATEST_MARK) {
            throw new IllegalArgumentException("not a mark");
        }
        Node node = game.at(here);
        if (here == 0 || node.markCount >= MOST_MARKS) {
            throw new IllegalStateException("no room for a mark");
        }
        node.putMark(mark);
        return node.markCount;
    }

    public int say() throws IllegalArgumentException {
        int length = text.size();
        if (length > MOST_REMARK || text.indexOf('}', 0) < length || text.indexOf(LINE_END, 0) < length) {
            throw new IllegalArgumentException("not a remark");
        }
        game.at(here).remark.copyFrom(text);
        text.keep(0);
        return length;
    }

    public boolean lead() throws IllegalStateException {
        if (here == 0) {
            throw new IllegalStateException("node 0 has no others beside it");
        }
        if (game.goesOn(here)) {
            return false;
        }
        if (!game.mayLead(here)) {
            throw new IllegalStateException("a node would be too deep");
        }
        game.putFirst(here);
        return true;
    }

    public void end(int result) throws IllegalArgumentException {
        if (result < 0 || result >= RESULTS) {
            throw new IllegalArgumentException("not a result");
        }
        game.result = result;
    }

    public int result() {
        return game.result;
    }

    public int tags() {
        return game.tagCount;
    }

    public int tag(int k, boolean value, int i) throws IndexOutOfBoundsException {
        if (k < 0 || k >= game.tagCount || i < 0) {
            throw new IndexOutOfBoundsException("no such tag or character");
        }
        Tag asked = game.tagAt(k);
        return value ? asked.value.at(i) : asked.name.at(i);
    }

    private static char byteOf(long w, int i) {
        return (char) (w >>> 8 * i & 255);
    }

    private static boolean isDigit(char c) {
        return c >= '0' && c <= '9';
    }

    private static boolean isLetter(char c) {
        return c >= 'a' && c <= 'z' || c >= 'A' && c <= 'Z';
    }

    private static boolean isFile(char c) {
        return c >= 'a' && c <= 'h';
    }

    private static boolean isRank(char c) {
        return c >= '1' && c <= '8';
    }

    private static int squareOf(char file, char rank) {
        return isFile(file) && isRank(rank) ? file - 'a' + 8 * (rank - '1') : NONE;
    }

    private static char fileLetter(int square) {
        return (char) ('a' + (square & 7));
    }

    private static char rankDigit(int square) {
        return (char) ('1' + (square >> 3));
    }

    /** The kind of man, 1 to 6, that a capital letter stands for, or 0. */
    private static int kindOf(char letter) {
        return MEN.indexOf(letter) + 1;
    }

    private static char letterOf(int kind) {
        return kind >= PAWN && kind <= KING ? MEN.charAt(kind - PAWN) : '?';
    }

    private static String resultSign(int result) {
        switch (result) {
            case 1:
                return "1-0";
            case 2:
                return "0-1";
            case 3:
                return "1/2-1/2";
            default:
                return "*";
        }
    }

    /** Characters one behind the other. Behind its end it answers 0, which no text holds. */
    private static final class Row {
        /** Shared by all rows that hold nothing yet. */
        private static final char[] NO_CHARS = {};

        private char[] chars = NO_CHARS;
        private int length = 0;

        int size() {
            return length;
        }

        char at(int i) {
            return i >= 0 && i < length ? chars[i] : 0;
        }

        void keep(int n) {
            if (n >= 0 && n < length) {
                length = n;
            }
        }

        void put(char c) {
            if (length >= chars.length) {
                char[] wider = new char[2 * length + 8];
                System.arraycopy(chars, 0, wider, 0, length);
                chars = wider;
            }
            chars[length] = c;
            length++;
        }

        void putText(String added) {
            for (int i = 0; i < added.length(); i++) {
                put(added.charAt(i));
            }
        }

        void putNumber(int number) {
            int unit = 1;
            for (int k = 0; k < 9 && number / unit >= 10; k++) {
                unit *= 10;
            }
            for (; unit > 0; unit /= 10) {
                put((char) ('0' + number / unit % 10));
            }
        }

        void copyFrom(Row other) {
            length = 0;
            putAll(other);
        }

        void putAll(Row other) {
            for (int i = 0; i < other.length; i++) {
                put(other.at(i));
            }
        }

        /** Where c stands first, from a place on; the length where it does not. */
        int indexOf(char c, int start) {
            int i = Math.max(start, 0);
            while (i < length && chars[i] != c) {
                i++;
            }
            return i;
        }

        boolean holds(String part, int start) {
            if (start < 0 || start + part.length() > length) {
                return false;
            }
            for (int i = 0; i < part.length(); i++) {
                if (chars[start + i] != part.charAt(i)) {
                    return false;
                }
            }
            return true;
        }

        boolean is(String whole) {
            return length == whole.length() && holds(whole, 0);
        }

        boolean isLike(Row other) {
            if (length != other.length) {
                return false;
            }
            for (int i = 0; i < length; i++) {
                if (chars[i] != other.at(i)) {
                    return false;
                }
            }
            return true;
        }
    }

    /** A position. The clock is not held: no answer depends on it. */
    private static final class Board {
        private static final int[] FIRST_RANK = {ROOK, KNIGHT, BISHOP, QUEEN, KING, BISHOP, KNIGHT, ROOK};

        final int[] men = new int[SQUARES];
        private int whiteKing = WHITE_HOME;
        private int blackKing = BLACK_HOME;
        int side = WHITE;
        int rights = 0;
        int passed = NONE;
        int number = 1;

        void setUp() {
            wipe();
            for (int file = 0; file < 8; file++) {
                put(file, FIRST_RANK[file]);
                put(file + 8, PAWN);
                put(file + 48, PAWN + 8);
                put(file + 56, FIRST_RANK[file] + 8);
            }
            rights = 15;
        }

        void wipe() {
            for (int square = 0; square < SQUARES; square++) {
                men[square] = EMPTY;
            }
            side = WHITE;
            rights = 0;
            passed = NONE;
            number = 1;
        }

        void copyFrom(Board other) {
            System.arraycopy(other.men, 0, men, 0, SQUARES);
            whiteKing = other.whiteKing;
            blackKing = other.blackKing;
            side = other.side;
            rights = other.rights;
            passed = other.passed;
            number = other.number;
        }

        void put(int square, int man) {
            men[square] = man;
            if (man == KING) {
                whiteKing = square;
            } else if (man == KING + 8) {
                blackKing = square;
            }
        }

        int kindAt(int square) {
            return men[square] & 7;
        }

        int kingOf(int owner) {
            return owner == WHITE ? whiteKing : blackKing;
        }

        boolean attacked(int square, int by) {
            for (int from = 0; from < SQUARES; from++) {
                if (men[from] != EMPTY && men[from] >> 3 == by && attacks(from, square)) {
                    return true;
                }
            }
            return false;
        }

        boolean attacks(int from, int to) {
            int across = (to & 7) - (from & 7);
            int up = (to >> 3) - (from >> 3);
            int kind = men[from] & 7;
            if (kind == PAWN) {
                return up == (men[from] < 8 ? 1 : -1) && across * across == 1;
            }
            if (kind == KNIGHT) {
                return across * across + up * up == 5;
            }
            int wide = across < 0 ? -across : across;
            int high = up < 0 ? -up : up;
            int steps = wide > high ? wide : high;
            if (kind == KING) {
                return steps == 1;
            }
            boolean straight = wide == 0 || high == 0;
            boolean onLine = straight ? kind == ROOK || kind == QUEEN
                    : wide == high && (kind == BISHOP || kind == QUEEN);
            if (!onLine || steps == 0) {
                return false;
            }
            int step = (across > 0 ? 1 : across < 0 ? -1 : 0) + (up > 0 ? 8 : up < 0 ? -8 : 0);
            for (int k = 1; k < steps; k++) {
                if (men[from + k * step] != EMPTY) {
                    return false;
                }
            }
            return true;
        }

        /** Whether a man of the side to move goes there, whatever comes of its king. */
        boolean reaches(int from, int to) {
            int man = men[from];
            if (man == EMPTY || man >> 3 != side || men[to] != EMPTY && men[to] >> 3 == side) {
                return false;
            }
            if (kindAt(from) == PAWN) {
                return pawnReaches(from, to);
            }
            return attacks(from, to) || castles(from, to) && castlingIsOpen(from, to);
        }

        private boolean pawnReaches(int from, int to) {
            int ahead = side == WHITE ? 8 : -8;
            if (to == from + ahead) {
                return men[to] == EMPTY;
            }
            if (to == from + 2 * ahead) {
                return from >> 3 == (side == WHITE ? 1 : 6) && men[from + ahead] == EMPTY && men[to] == EMPTY;
            }
            return attacks(from, to) && (men[to] != EMPTY || to == passed);
        }

        /** Only castling takes a king two squares along its rank. */
        boolean castles(int from, int to) {
            return (men[from] & 7) == KING && from >> 3 == to >> 3 && (to == from + 2 || to == from - 2);
        }

        private boolean castlingIsOpen(int from, int to) {
            int right = (to > from ? 1 : 2) << (side == WHITE ? 0 : 2);
            if (from != (side == WHITE ? WHITE_HOME : BLACK_HOME) || (rights & right) == 0) {
                return false;
            }
            if (to > from) {
                return men[from + 1] == EMPTY && men[from + 2] == EMPTY;
            }
            return men[from - 1] == EMPTY && men[from - 2] == EMPTY && men[from - 3] == EMPTY;
        }

        boolean takes(int from, int to) {
            return men[to] != EMPTY || kindAt(from) == PAWN && (from & 7) != (to & 7);
        }

        boolean becomesAnother(int from, int to) {
            return kindAt(from) == PAWN && (to < 8 || to >= 56);
        }

        boolean pawnAttacks(int square, int by) {
            int pawn = PAWN + 8 * by;
            int behind = square + (by == WHITE ? -8 : 8);
            if (behind < 0 || behind >= SQUARES) {
                return false;
            }
            return (behind & 7) > 0 && men[behind - 1] == pawn || (behind & 7) < 7 && men[behind + 1] == pawn;
        }

        void play(int move) {
            int from = move & 63;
            int to = move >> 6 & 63;
            int becomes = move >> 12 & 7;
            boolean pawn = kindAt(from) == PAWN;
            if (pawn && to == passed) {
                men[(from & 56) + (to & 7)] = EMPTY;
            }
            if (castles(from, to)) {
                int corner = to > from ? from | 7 : from & 56;
                men[(from + to) / 2] = men[corner];
                men[corner] = EMPTY;
            }
            put(to, becomes == 0 ? men[from] : becomes + 8 * side);
            men[from] = EMPTY;
            rights &= ~(rightsOf(from) | rightsOf(to));
            passed = NONE;
            if (pawn && (to == from + 16 || to == from - 16) && pawnAttacks((from + to) / 2, 1 - side)) {
                passed = (from + to) / 2;
            }
            number += side;
            side = 1 - side;
        }

        /** The rights that end when something goes from that square or to it. */
        private static int rightsOf(int square) {
            switch (square) {
                case 0:
                    return 2;
                case WHITE_HOME:
                    return 3;
                case 7:
                    return 1;
                case 56:
                    return 8;
                case BLACK_HOME:
                    return 12;
                case 63:
                    return 4;
                default:
                    return 0;
            }
        }
    }

    /** What of the moves that men can make is legal, and what they do to the other king. */
    private static final class Rules {
        private final Board trial = new Board();
        private final Board after = new Board();

        /** Whether a move that its man reaches leaves its own king out of check. */
        boolean isSafe(Board board, int move) {
            int from = move & 63;
            int to = move >> 6 & 63;
            int side = board.side;
            if (board.castles(from, to)
                    && (board.attacked(from, 1 - side) || board.attacked((from + to) / 2, 1 - side))) {
                return false;
            }
            trial.copyFrom(board);
            trial.play(move);
            return !trial.attacked(trial.kingOf(side), 1 - side);
        }

        /** Whether any number at all tells a legal move. */
        boolean isLegal(Board board, int move) {
            int from = move & 63;
            int to = move >> 6 & 63;
            int becomes = move >> 12;
            if (becomes < 0 || becomes == PAWN || becomes > QUEEN || !board.reaches(from, to)) {
                return false;
            }
            return board.becomesAnother(from, to) == (becomes != 0) && isSafe(board, move);
        }

        int legalMove(Board board, int k) {
            if (k < 0) {
                return NONE;
            }
            int left = k;
            for (int from = 0; from < SQUARES; from++) {
                for (int to = 0; to < SQUARES; to++) {
                    int move = from + 64 * to;
                    if (board.reaches(from, to) && isSafe(board, move)) {
                        int ways = board.becomesAnother(from, to) ? 4 : 1;
                        if (left < ways) {
                            return ways == 1 ? move : move + 4096 * (KNIGHT + left);
                        }
                        left -= ways;
                    }
                }
            }
            return NONE;
        }

        /** # for a legal move that mates, + for another one that gives check, otherwise 0. */
        char checkSign(Board board, int move) {
            after.copyFrom(board);
            after.play(move);
            if (!after.attacked(after.kingOf(after.side), 1 - after.side)) {
                return 0;
            }
            for (int from = 0; from < SQUARES; from++) {
                for (int to = 0; to < SQUARES; to++) {
                    if (after.reaches(from, to) && isSafe(after, from + 64 * to)) {
                        return '+';
                    }
                }
            }
            return '#';
        }
    }

    /** Reads the text of a position. */
    private static final class PositionReader {
        private static final String RIGHTS = "KQkq";
        /** Each man stands at its number less one. */
        private static final String SIGNS = "PNBRQK  pnbrqk";

        private Row text = new Row();
        private int at = 0;

        /** False, with anything on the board, when it has a fault. */
        boolean readInto(Board board, Row value) {
            text = value;
            at = 0;
            board.wipe();
            return readMen(board) && skip(' ')
                    && readSide(board) && skip(' ')
                    && readRights(board) && skip(' ')
                    && readPassed(board) && skip(' ')
                    && readNumber() >= 0 && skip(' ')
                    && readMoveNumber(board) && at == text.size()
                    && hasSoundMen(board) && hasSoundRights(board) && hasSoundPassed(board);
        }

        private boolean skip(char c) {
            if (text.at(at) != c) {
                return false;
            }
            at++;
            return true;
        }

        private boolean readMen(Board board) {
            for (int rank = 7; rank >= 0; rank--) {
                if (rank < 7 && !skip('/') || !readRank(board, 8 * rank)) {
                    return false;
                }
            }
            return true;
        }

        private boolean readRank(Board board, int first) {
            boolean digitBefore = false;
            int file = 0;
            while (file < 8) {
                char c = text.at(at);
                boolean digit = isRank(c);
                int man = isLetter(c) ? SIGNS.indexOf(c) + 1 : EMPTY;
                if (digit ? digitBefore : man == EMPTY) {
                    return false;
                }
                if (!digit) {
                    board.put(first + file, man);
                }
                file += digit ? c - '0' : 1;
                digitBefore = digit;
                at++;
            }
            return file == 8;
        }

        private boolean readSide(Board board) {
            board.side = text.at(at) == 'b' ? BLACK : WHITE;
            return skip('w') || skip('b');
        }

        private boolean readRights(Board board) {
            if (skip('-')) {
                return true;
            }
            for (int i = 0; i < RIGHTS.length(); i++) {
                if (skip(RIGHTS.charAt(i))) {
                    board.rights |= 1 << i;
                }
            }
            return board.rights != 0;
        }

        private boolean readPassed(Board board) {
            if (skip('-')) {
                return true;
            }
            board.passed = squareOf(text.at(at), text.at(at + 1));
            at += 2;
            return board.passed != NONE;
        }

        /** A number 0 .. 999, or NONE. */
        private int readNumber() {
            int start = at;
            int number = 0;
            while (at < start + 3 && isDigit(text.at(at))) {
                number = 10 * number + text.at(at) - '0';
                at++;
            }
            boolean zeroBefore = text.at(start) == '0' && at > start + 1;
            return at == start || zeroBefore ? NONE : number;
        }

        private boolean readMoveNumber(Board board) {
            board.number = readNumber();
            return board.number > 0;
        }

        private static boolean hasSoundMen(Board board) {
            int whiteKings = 0;
            int blackKings = 0;
            for (int square = 0; square < SQUARES; square++) {
                whiteKings += board.men[square] == KING ? 1 : 0;
                blackKings += board.men[square] == KING + 8 ? 1 : 0;
                if (board.kindAt(square) == PAWN && (square < 8 || square >= 56)) {
                    return false;
                }
            }
            return whiteKings == 1 && blackKings == 1
                    && !board.attacked(board.kingOf(1 - board.side), board.side);
        }

        private static boolean hasSoundRights(Board board) {
            for (int i = 0; i < RIGHTS.length(); i++) {
                int colour = i < 2 ? 0 : 8;
                int home = i < 2 ? WHITE_HOME : BLACK_HOME;
                int corner = i % 2 == 0 ? home + 3 : home - 4;
                if ((board.rights >> i & 1) == 1
                        && (board.men[home] != KING + colour || board.men[corner] != ROOK + colour)) {
                    return false;
                }
            }
            return true;
        }

        private static boolean hasSoundPassed(Board board) {
            int square = board.passed;
            if (square == NONE) {
                return true;
            }
            boolean white = board.side == WHITE;
            if (square >> 3 != (white ? 5 : 2) || board.men[square] != EMPTY) {
                return false;
            }
            int ahead = white ? -8 : 8;
            return board.men[square + ahead] == PAWN + 8 * (1 - board.side)
                    && board.men[square - ahead] == EMPTY
                    && board.pawnAttacks(square, board.side);
        }
    }

    /** Reads the signs of one move. */
    private static final class SignReader {
        private static final int ANY = -1;
        /** No signs are longer, as bxa8=Q+ or Qa1xb2+; so of a longer row one character more is enough. */
        private static final int LONGEST = 7;

        private final Rules rules = new Rules();
        private final Row row = new Row();
        private int castling;
        private int kind;
        private int file;
        private int rank;
        private int to;
        private int becomes;
        /** 1 with an x, 0 without, or ANY. */
        private int taking;
        private char check;
        private final int[] fitting = new int[SQUARES];
        private int fits;

        /** The only legal move that the signs fit; or ALMOST; or NONE. */
        int matched(Board board, Row text, int start, int stop) {
            copyWhole(text, start, stop);
            if (parse()) {
                gather(board);
                int move = NONE;
                int count = 0;
                for (int i = 0; i < fits; i++) {
                    if (check == 0 || check == rules.checkSign(board, fitting[i])) {
                        move = fitting[i];
                        count++;
                    }
                }
                if (count > 0) {
                    return count == 1 ? move : NONE;
                }
            }
            copyBare(text, start, stop);
            if (!parse()) {
                return NONE;
            }
            taking = ANY;
            gather(board);
            return fits == 1 ? ALMOST : NONE;
        }

        private void copyWhole(Row text, int start, int stop) {
            row.keep(0);
            for (int i = start; i < stop && row.size() <= LONGEST; i++) {
                row.put(text.at(i));
            }
            char last = row.at(row.size() - 1);
            check = last == '+' || last == '#' ? last : 0;
            if (check != 0) {
                row.keep(row.size() - 1);
            }
        }

        /** All but x, + and #. */
        private void copyBare(Row text, int start, int stop) {
            row.keep(0);
            for (int i = start; i < stop && row.size() <= LONGEST; i++) {
                char c = text.at(i);
                if (c != 'x' && c != '+' && c != '#') {
                    row.put(c);
                }
            }
        }

        private boolean parse() {
            becomes = 0;
            castling = row.is("O-O") ? 2 : row.is("O-O-O") ? -2 : 0;
            if (castling != 0) {
                return true;
            }
            int start = kindOf(row.at(0)) >= KNIGHT ? 1 : 0;
            int stop = row.size();
            kind = start == 1 ? kindOf(row.at(0)) : PAWN;
            if (kind == PAWN && row.at(stop - 2) == '=') {
                becomes = kindOf(row.at(stop - 1));
                if (becomes < KNIGHT || becomes > QUEEN) {
                    return false;
                }
                stop -= 2;
            }
            to = squareOf(row.at(stop - 2), row.at(stop - 1));
            stop -= 2;
            if (to == NONE) {
                return false;
            }
            taking = stop > start && row.at(stop - 1) == 'x' ? 1 : 0;
            return parseApart(start, stop - taking);
        }

        /** File and rank of the square from which it goes: what stands between letter and x. */
        private boolean parseApart(int start, int stop) {
            int i = start;
            file = NONE;
            rank = NONE;
            if (i < stop && isFile(row.at(i))) {
                file = row.at(i) - 'a';
                i++;
            }
            if (i < stop && kind != PAWN && isRank(row.at(i))) {
                rank = row.at(i) - '1';
                i++;
            }
            return i == stop;
        }

        /** Keeps the legal moves that fit, whatever check they give. */
        private void gather(Board board) {
            fits = 0;
            int home = board.side == WHITE ? WHITE_HOME : BLACK_HOME;
            if (castling != 0) {
                to = home + castling;
            }
            for (int from = 0; from < SQUARES; from++) {
                boolean asked = castling != 0 ? from == home && board.castles(from, to) : fitsFrom(board, from);
                int move = from + 64 * to + 4096 * becomes;
                if (asked && board.reaches(from, to) && rules.isSafe(board, move)) {
                    fitting[fits] = move;
                    fits++;
                }
            }
        }

        private boolean fitsFrom(Board board, int from) {
            if (board.men[from] != kind + 8 * board.side || board.castles(from, to)
                    || file != NONE && file != (from & 7) || rank != NONE && rank != from >> 3) {
                return false;
            }
            boolean takes = board.takes(from, to);
            if (kind == PAWN && takes && file == NONE) {
                return false;
            }
            return (taking == ANY || takes == (taking == 1))
                    && board.becomesAnother(from, to) == (becomes != 0);
        }
    }

    /** Writes the signs of legal moves. */
    private static final class SignWriter {
        private final Rules rules = new Rules();

        void putSigns(Board board, int move, Row out) {
            int from = move & 63;
            int to = move >> 6 & 63;
            if (board.castles(from, to)) {
                out.putText(to > from ? "O-O" : "O-O-O");
            } else {
                boolean takes = board.takes(from, to);
                if (board.kindAt(from) != PAWN) {
                    out.put(letterOf(board.kindAt(from)));
                    putApart(board, from, to, out);
                } else if (takes) {
                    out.put(fileLetter(from));
                }
                if (takes) {
                    out.put('x');
                }
                out.put(fileLetter(to));
                out.put(rankDigit(to));
            }
            if (move >= 4096) {
                out.put('=');
                out.put(letterOf(move >> 12));
            }
            char check = rules.checkSign(board, move);
            if (check != 0) {
                out.put(check);
            }
        }

        private void putApart(Board board, int from, int to, Row out) {
            boolean others = false;
            boolean onFile = false;
            boolean onRank = false;
            for (int other = 0; other < SQUARES; other++) {
                if (other != from && board.men[other] == board.men[from]
                        && board.reaches(other, to) && rules.isSafe(board, other + 64 * to)) {
                    others = true;
                    onFile = onFile || (other & 7) == (from & 7);
                    onRank = onRank || other >> 3 == from >> 3;
                }
            }
            if (others && (!onFile || onRank)) {
                out.put(fileLetter(from));
            }
            if (onFile) {
                out.put(rankDigit(from));
            }
        }
    }

    /** A place in the tree: a move, or the beginning. */
    private static final class Node {
        int parent = NONE;
        int move = NONE;
        int first = NONE;
        int next = NONE;
        int markCount = 0;
        /** A byte for each mark, the first one lowest. */
        private int marks = 0;
        final Row remark = new Row();

        void become(int newParent, int newMove) {
            parent = newParent;
            move = newMove;
            first = NONE;
            next = NONE;
            markCount = 0;
            marks = 0;
            remark.keep(0);
        }

        int markAt(int k) {
            return marks >>> 8 * k & 255;
        }

        void putMark(int mark) {
            marks |= mark << 8 * markCount;
            markCount++;
        }

        /** False, changing nothing, when the remark would be too long. */
        boolean joinRemark(Row text, int start, int stop) {
            if (stop <= start) {
                return true;
            }
            int gap = remark.size() > 0 ? 1 : 0;
            if (remark.size() + gap + stop - start > MOST_REMARK) {
                return false;
            }
            if (gap == 1) {
                remark.put(' ');
            }
            for (int i = start; i < stop; i++) {
                remark.put(text.at(i) == LINE_END ? ' ' : text.at(i));
            }
            return true;
        }
    }

    private static final class Tag {
        final Row name = new Row();
        final Row value = new Row();
    }

    /** A tree of moves with its tags and its result. A node's number is above its parent's. */
    private static final class Game {
        final Board start = new Board();
        private final Node root = new Node();
        /** Made when they are first needed, and then used again. */
        private final Node[] others = new Node[MOST_NODES + 1];
        int greatest = 0;
        private final Tag[] tagRow = new Tag[MOST_TAGS];
        int tagCount = 0;
        int result = 0;
        private final int[] scratch = new int[MOST_NODES + 1];

        Game() {
            start.setUp();
        }

        void wipe() {
            start.setUp();
            root.become(NONE, NONE);
            greatest = 0;
            tagCount = 0;
            result = 0;
        }

        boolean has(int node) {
            return node >= 0 && node <= greatest;
        }

        Node at(int node) {
            Node found = node > 0 && node <= greatest ? others[node] : null;
            return found != null ? found : root;
        }

        int childWith(int parent, int move) {
            int child = at(parent).first;
            for (int k = 0; k < MOST_NODES && child != NONE && at(child).move != move; k++) {
                child = at(child).next;
            }
            return child;
        }

        /** A new node behind the others of its parent; NONE when the tree is full. */
        int grow(int parent, int move) {
            if (greatest >= MOST_NODES) {
                return NONE;
            }
            int older = at(parent).first;
            for (int k = 0; k < MOST_NODES && older != NONE && at(older).next != NONE; k++) {
                older = at(older).next;
            }
            greatest++;
            if (others[greatest] == null) {
                others[greatest] = new Node();
            }
            at(greatest).become(parent, move);
            if (older == NONE) {
                at(parent).first = greatest;
            } else {
                at(older).next = greatest;
            }
            return greatest;
        }

        boolean goesOn(int node) {
            return at(at(node).parent).first == node;
        }

        /** How deep a new child would be. */
        int deepOfNext(int parent) {
            int deep = at(parent).first == NONE ? 0 : 1;
            int node = parent;
            for (int k = 0; k < MOST_NODES && node > 0; k++) {
                deep += goesOn(node) ? 0 : 1;
                node = at(node).parent;
            }
            return deep;
        }

        /** Whether no node is too deep once that one goes on. */
        boolean mayLead(int leader) {
            int[] deep = scratch;
            deep[0] = 0;
            for (int i = 1; i <= greatest; i++) {
                int parent = at(i).parent;
                int first = parent == at(leader).parent ? leader : at(parent).first;
                deep[i] = (parent >= 0 && parent < i ? deep[parent] : 0) + (i == first ? 0 : 1);
                if (deep[i] > MOST_DEEP) {
                    return false;
                }
            }
            return true;
        }

        /** Of a node that does not go on. */
        void putFirst(int leader) {
            Node parent = at(at(leader).parent);
            int older = parent.first;
            for (int k = 0; k < MOST_NODES && at(older).next != leader; k++) {
                older = at(older).next;
            }
            at(older).next = at(leader).next;
            at(leader).next = parent.first;
            parent.first = leader;
        }

        /** Puts the position behind a node on a board. */
        void standAt(int node, Board board) {
            int[] moves = scratch;
            int count = 0;
            for (int on = node; on > 0 && count < MOST_NODES; on = at(on).parent) {
                moves[count] = at(on).move;
                count++;
            }
            board.copyFrom(start);
            for (int k = count - 1; k >= 0; k--) {
                board.play(moves[k]);
            }
        }

        Tag tagAt(int k) {
            Tag found = k >= 0 && k < tagCount ? tagRow[k] : null;
            return found != null ? found : new Tag();
        }

        boolean hasTag(Row name) {
            for (int k = 0; k < tagCount; k++) {
                if (tagAt(k).name.isLike(name)) {
                    return true;
                }
            }
            return false;
        }

        void putTag(Row name, Row value) {
            if (tagCount >= MOST_TAGS) {
                return;
            }
            if (tagRow[tagCount] == null) {
                tagRow[tagCount] = new Tag();
            }
            tagCount++;
            tagAt(tagCount - 1).name.copyFrom(name);
            tagAt(tagCount - 1).value.copyFrom(value);
        }

        /** Whether a tag Result, if there is one, tells the same. */
        boolean agreesWith(int told) {
            for (int k = 0; k < tagCount; k++) {
                if (tagAt(k).name.is("Result") && !tagAt(k).value.is(resultSign(told))) {
                    return false;
                }
            }
            return true;
        }
    }

    /** Reads the text of a game, from its beginning to the first fault. */
    private static final class GameReader {
        private final SignReader signReader = new SignReader();
        private final PositionReader positionReader = new PositionReader();
        private Row text = new Row();
        private Game game = new Game();
        private int at = 0;
        private int fault = 0;
        private final Row name = new Row();
        private final Row value = new Row();
        /** For each open line: the node from which it goes, and its last one. */
        private final int[] root = new int[MOST_DEEP + 1];
        private final int[] last = new int[MOST_DEEP + 1];
        /** For each open line: the positions before and behind its last move. */
        private final Board[] before = new Board[MOST_DEEP + 1];
        private final Board[] behind = new Board[MOST_DEEP + 1];

        GameReader() {
            for (int depth = 0; depth <= MOST_DEEP; depth++) {
                before[depth] = new Board();
                behind[depth] = new Board();
            }
        }

        void begin(Row newText) {
            text = newText;
            game.wipe();
            at = 0;
            fault = 0;
        }

        int fault() {
            return fault;
        }

        /** The game that was read, for one that may be used again. */
        Game exchange(Game old) {
            Game done = game;
            game = old;
            return done;
        }

        private boolean refuse(int kind, int place) {
            fault = 10000 * kind + place;
            return false;
        }

        private void skipBlanks() {
            while (at < text.size() && (text.at(at) == ' ' || text.at(at) == LINE_END)) {
                at++;
            }
        }

        boolean readHead() {
            boolean sound = true;
            skipBlanks();
            for (int k = 0; k < MOST_TEXT && sound && text.at(at) == '['; k++) {
                sound = readTag();
                skipBlanks();
            }
            return sound && readRemarks(game.at(0));
        }

        private boolean readTag() {
            int start = at;
            if (!readName() || !readValue()) {
                return false;
            }
            skipBlanks();
            if (text.at(at) != ']') {
                return refuse(1, at);
            }
            at++;
            if (game.tagCount >= MOST_TAGS || name.size() > MOST_NAME || game.hasTag(name)
                    || value.size() > MOST_VALUE) {
                return refuse(2, start);
            }
            if (name.is("FEN") && !positionReader.readInto(game.start, value)) {
                return refuse(3, start);
            }
            game.putTag(name, value);
            return true;
        }

        private boolean readName() {
            at++;
            skipBlanks();
            name.keep(0);
            while (at < text.size() && (isLetter(text.at(at)) || isDigit(text.at(at)))) {
                name.put(text.at(at));
                at++;
            }
            return name.size() > 0 || refuse(1, at);
        }

        private boolean readValue() {
            skipBlanks();
            if (text.at(at) != '"') {
                return refuse(1, at);
            }
            value.keep(0);
            for (at++; at < text.size(); at++) {
                char c = text.at(at);
                if (c == '"') {
                    at++;
                    return true;
                }
                if (c == '\\') {
                    at++;
                    c = text.at(at);
                    if (c != '"' && c != '\\') {
                        return refuse(1, at);
                    }
                }
                if (c == LINE_END) {
                    return refuse(1, at);
                }
                value.put(c);
            }
            return refuse(1, at);
        }

        private boolean readRemarks(Node node) {
            boolean sound = true;
            skipBlanks();
            for (int k = 0; k < MOST_TEXT && sound && (text.at(at) == '{' || text.at(at) == ';'); k++) {
                sound = readRemark(node);
                skipBlanks();
            }
            return sound;
        }

        private boolean readRemark(Node node) {
            int start = at;
            boolean inBrackets = text.at(start) == '{';
            int bracket = text.indexOf('}', start);
            int stop = inBrackets ? bracket : text.indexOf(LINE_END, start);
            if (inBrackets ? bracket == text.size() : bracket < stop) {
                return refuse(1, bracket);
            }
            if (!node.joinRemark(text, start + 1, stop)) {
                return refuse(8, start);
            }
            at = Math.min(stop + 1, text.size());
            return true;
        }

        /** The outer line with all lines inside of it, up to the result's sign. */
        boolean readMoves() {
            int depth = 0;
            root[0] = 0;
            last[0] = 0;
            behind[0].copyFrom(game.start);
            for (int turn = 0; turn <= MOST_TEXT; turn++) {
                skipBlanks();
                boolean begun = last[depth] != root[depth];
                if (depth == 0 && resultHere() != NONE) {
                    return true;
                }
                if (begun && text.at(at) == '(') {
                    if (depth >= MOST_DEEP) {
                        return refuse(8, at);
                    }
                    depth++;
                    openLine(depth);
                } else if (begun && depth > 0 && text.at(at) == ')') {
                    depth--;
                    at++;
                    if (!readRemarks(game.at(last[depth]))) {
                        return false;
                    }
                } else if (!readMove(depth)) {
                    return false;
                }
            }
            return refuse(1, at);
        }

        /** A line instead of the last move of the line around it. */
        private void openLine(int depth) {
            root[depth] = game.at(last[depth - 1]).parent;
            last[depth] = root[depth];
            behind[depth].copyFrom(before[depth - 1]);
            at++;
        }

        private boolean readMove(int depth) {
            Board board = behind[depth];
            if (isDigit(text.at(at)) && !readNumber(board.number)) {
                return false;
            }
            if (!isLetter(text.at(at))) {
                return refuse(1, at);
            }
            int start = at;
            skipSigns();
            int move = signReader.matched(board, text, start, at);
            if (move < 0) {
                return refuse(move == ALMOST ? 5 : 4, start);
            }
            if (game.childWith(last[depth], move) != NONE) {
                return refuse(6, start);
            }
            int grown = game.grow(last[depth], move);
            if (grown == NONE) {
                return refuse(8, start);
            }
            last[depth] = grown;
            before[depth].copyFrom(board);
            board.play(move);
            return readMarks(game.at(grown)) && readRemarks(game.at(grown));
        }

        private boolean readNumber(int due) {
            int start = at;
            int number = readDigits(4);
            while (at < text.size() && text.at(at) == '.') {
                at++;
            }
            skipBlanks();
            return number == due || refuse(7, start);
        }

        private int readDigits(int most) {
            int stop = at + most;
            int number = 0;
            while (at < stop && isDigit(text.at(at))) {
                number = 10 * number + text.at(at) - '0';
                at++;
            }
            return number;
        }

        private void skipSigns() {
            while (at < text.size() && isSign(text.at(at))) {
                at++;
            }
        }

        private static boolean isSign(char c) {
            return isLetter(c) || isDigit(c) || c == '=' || c == '-' || c == '+' || c == '#';
        }

        private boolean readMarks(Node node) {
            skipBlanks();
            int mark = shortMark(text.at(at), text.at(at + 1));
            if (mark > 0) {
                node.putMark(mark);
                at += mark > 2 ? 2 : 1;
                skipBlanks();
            }
            boolean sound = true;
            for (int k = 0; k < MOST_TEXT && sound && text.at(at) == '$'; k++) {
                sound = readMark(node);
                skipBlanks();
            }
            return sound;
        }

        /** 1 and 2 are written with one character, 3 to 6 with two. */
        private static int shortMark(char c, char then) {
            if (c == '!') {
                return then == '!' ? 3 : then == '?' ? 5 : 1;
            }
            if (c == '?') {
                return then == '?' ? 4 : then == '!' ? 6 : 2;
            }
            return 0;
        }

        private boolean readMark(Node node) {
            int start = at;
            at++;
            int mark = readDigits(3);
            if (at == start + 1) {
                return refuse(1, at);
            }
            if (mark > GREATEST_MARK || node.markCount >= MOST_MARKS) {
                return refuse(8, start);
            }
            if (isDigit(text.at(at))) {
                return refuse(1, at);
            }
            node.putMark(mark);
            return true;
        }

        private int resultHere() {
            for (int result = 0; result < RESULTS; result++) {
                if (text.holds(resultSign(result), at)) {
                    return result;
                }
            }
            return NONE;
        }

        boolean readEnd() {
            int result = resultHere();
            if (!game.agreesWith(result)) {
                return refuse(9, at);
            }
            game.result = result;
            at += resultSign(result).length();
            skipBlanks();
            return at == text.size() || refuse(1, at);
        }
    }

    /** Writes a game. */
    private static final class GameWriter {
        private final SignWriter signWriter = new SignWriter();
        /** For each open line: the position before its next move. */
        private final Board[] boards = new Board[MOST_DEEP + 1];

        GameWriter() {
            for (int depth = 0; depth <= MOST_DEEP; depth++) {
                boards[depth] = new Board();
            }
        }

        /** All that stands before the moves; the line that follows begins where the game does. */
        void putHead(Game game, Row out) {
            for (int k = 0; k < game.tagCount; k++) {
                Tag tag = game.tagAt(k);
                out.put('[');
                out.putAll(tag.name);
                out.putText(" \"");
                putQuoted(tag.value, out);
                out.putText("\"]\n");
            }
            if (game.tagCount > 0) {
                out.put(LINE_END);
            }
            putRemark(game.at(0), out);
            boards[0].copyFrom(game.start);
        }

        private static void putQuoted(Row value, Row out) {
            for (int i = 0; i < value.size(); i++) {
                char c = value.at(i);
                if (c == '"' || c == '\\') {
                    out.put('\\');
                }
                out.put(c);
            }
        }

        void putEnd(Game game, Row out) {
            putGap(out);
            out.putText(resultSign(game.result));
        }

        /** A space, but not where a line or a bracket has just begun. */
        private static void putGap(Row out) {
            char before = out.at(out.size() - 1);
            if (before != 0 && before != LINE_END && before != '(') {
                out.put(' ');
            }
        }

        private static void putRemark(Node node, Row out) {
            if (node.remark.size() == 0) {
                return;
            }
            putGap(out);
            out.put('{');
            out.putAll(node.remark);
            out.put('}');
        }

        /** A line from the position on the board of its depth. */
        private void putLine(Game game, int first, int depth, Row out) {
            if (depth > MOST_DEEP) {
                return;
            }
            Board board = boards[depth];
            boolean numbered = true;
            int on = first;
            for (int k = 0; k < MOST_NODES && on != NONE; k++) {
                Node node = game.at(on);
                putMove(board, node, numbered, out);
                numbered = node.remark.size() > 0;
                int other = game.goesOn(on) ? node.next : NONE;
                for (int n = 0; n < MOST_NODES && other != NONE && depth < MOST_DEEP; n++) {
                    boards[depth + 1].copyFrom(board);
                    putGap(out);
                    out.put('(');
                    putLine(game, other, depth + 1, out);
                    out.put(')');
                    numbered = true;
                    other = game.at(other).next;
                }
                board.play(node.move);
                on = node.first;
            }
        }

        private void putMove(Board board, Node node, boolean numbered, Row out) {
            if (board.side == WHITE || numbered) {
                putGap(out);
                out.putNumber(board.number);
                out.putText(board.side == WHITE ? "." : "...");
            }
            putGap(out);
            signWriter.putSigns(board, node.move, out);
            for (int k = 0; k < node.markCount; k++) {
                putGap(out);
                out.put('$');
                out.putNumber(node.markAt(k));
            }
            putRemark(node, out);
        }
    }
}
