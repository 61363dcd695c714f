import java.util.NoSuchElementException;

/**
 * A board game in which pieces inherit the steps of what they capture.
 * The document ../shared/DOC.md tells what each public method promises.
 */
public final class BrackenGambit {
    private static final int WIDTH = 6;
    private static final int SQUARES = 36;
    private static final int KINDS = 5;
    private static final int ALL_STEPS = 31;
    private static final int MOST_PIECES = 8;
    private static final int MOST_CAPTURES = 16;
    private static final int DRAWING_TIMES = 3;
    private static final int NOWHERE = -1;
    private static final int NOBODY = -1;

    private final Game game;
    private final History history;
    private final MoveText text;
    private final Board trial;

    public BrackenGambit() {
        game = new Game();
        history = new History();
        text = new MoveText();
        trial = new Board();
    }

    // ---- before the game

    public int putPiece(int side, int square, int steps)
            throws IndexOutOfBoundsException, IllegalArgumentException, IllegalStateException {
        return put(side, square, steps, false);
    }

    public int putLeader(int side, int square, int steps)
            throws IndexOutOfBoundsException, IllegalArgumentException, IllegalStateException {
        return put(side, square, steps, true);
    }

    public int takeAway(int square) throws IndexOutOfBoundsException, IllegalStateException {
        needSquare(square);
        if (game.hasStarted() || game.board.isEmpty(square)) {
            throw new IllegalStateException("no piece can be taken away from there now");
        }
        history.remember(game);
        return game.removePiece(square);
    }

    public int start() throws IllegalStateException {
        if (!game.canBegin()) {
            throw new IllegalStateException("the game is started already, or a side has no leader");
        }
        history.remember(game);
        return game.begin();
    }

    // ---- moves

    public int move(int from, int to) throws IndexOutOfBoundsException, IllegalStateException {
        needSquare(from);
        needSquare(to);
        if (game.reasonAgainst(from, to) != Game.NO_REASON) {
            throw new IllegalStateException("the move is not possible");
        }
        history.remember(game);
        return game.makeMove(from, to);
    }

    public int play() throws IllegalArgumentException {
        if (!text.isList()) {
            throw new IllegalArgumentException("the text is not a list of moves");
        }
        history.remember(game);
        int listed = text.movesListed();
        for (int made = 0; made < listed; made++) {
            int from = text.firstSquareOf(made);
            int to = text.secondSquareOf(made);
            if (game.reasonAgainst(from, to) != Game.NO_REASON) {
                return made;
            }
            game.makeMove(from, to);
        }
        return listed;
    }

    public int whyNot(int from, int to) throws IndexOutOfBoundsException {
        needSquare(from);
        needSquare(to);
        return game.reasonAgainst(from, to);
    }

    // ---- text

    public int append(char character) throws IllegalStateException {
        if (text.isFull()) {
            throw new IllegalStateException("the text is full");
        }
        return text.add(character);
    }

    public int clearText() {
        return text.empty();
    }

    public boolean isValid() {
        return text.isList();
    }

    public int firstError() throws IllegalStateException {
        if (text.isList()) {
            throw new IllegalStateException("the text has no error");
        }
        return text.firstMisfit();
    }

    // ---- history

    public int undo() throws IllegalStateException {
        if (history.size == 0) {
            throw new IllegalStateException("the history is empty");
        }
        history.restore(game);
        return history.size;
    }

    // ---- queries about pieces

    public int pieces(int side) throws IndexOutOfBoundsException {
        needSide(side);
        return game.board.countOf(side);
    }

    public int sideAt(int square) throws IndexOutOfBoundsException, NoSuchElementException {
        return Piece.sideOf(neededPiece(square));
    }

    public int stepsAt(int square) throws IndexOutOfBoundsException, NoSuchElementException {
        return Piece.stepsOf(neededPiece(square));
    }

    public int worthAt(int square) throws IndexOutOfBoundsException, NoSuchElementException {
        return Piece.worthOf(neededPiece(square));
    }

    public int leaderOf(int side) throws IndexOutOfBoundsException, NoSuchElementException {
        needSide(side);
        int square = game.board.leaderSquare(side);
        if (square == NOWHERE) {
            throw new NoSuchElementException("the side has no leader");
        }
        return square;
    }

    public int knowing(int side, int kind) throws IndexOutOfBoundsException {
        needSide(side);
        needKind(kind);
        return Long.bitCount(game.board.knowers(side, kind));
    }

    // ---- moves and guards

    public long reach(int square) throws IndexOutOfBoundsException, NoSuchElementException {
        neededPiece(square);
        return game.board.reachFrom(square);
    }

    public int moveCount(int side) throws IndexOutOfBoundsException {
        needSide(side);
        return game.board.movesOf(side);
    }

    public int guards(int side, int square) throws IndexOutOfBoundsException {
        needSide(side);
        needSquare(square);
        return game.board.countGuardsAlong(side, square);
    }

    public int guardsByLooking(int side, int square) throws IndexOutOfBoundsException {
        needSide(side);
        needSquare(square);
        return Long.bitCount(game.board.guardsSeenFrom(side, square));
    }

    public long guarded(int side) throws IndexOutOfBoundsException {
        needSide(side);
        return game.board.guardedBy(side);
    }

    public int exchange(int square) throws IndexOutOfBoundsException, NoSuchElementException {
        neededPiece(square);
        return exchangeTried(square);
    }

    public int weakest(int side) throws IndexOutOfBoundsException, NoSuchElementException {
        needSide(side);
        int most = 0;
        int found = NOWHERE;
        for (int square = 0; square < SQUARES; square++) {
            if (game.board.holds(square, side)) {
                int exchanged = exchangeTried(square);
                if (exchanged > most) {
                    most = exchanged;
                    found = square;
                }
            }
        }
        if (found == NOWHERE) {
            throw new NoSuchElementException("no exchange is worth more than 0");
        }
        return found;
    }

    // ---- the game

    public int toMove() {
        return game.turn;
    }

    public boolean isOver() {
        return game.over;
    }

    public int winner() throws NoSuchElementException {
        if (game.champion == NOBODY) {
            throw new NoSuchElementException("nobody has won");
        }
        return game.champion;
    }

    public int repetitions() {
        return game.timesOfBoard();
    }

    public int movesMade() {
        return game.made;
    }

    // ---- totals

    public int worth(int side) throws IndexOutOfBoundsException {
        needSide(side);
        return game.board.worthOfSide(side);
    }

    public int worthByAccount(int side) throws IndexOutOfBoundsException {
        needSide(side);
        return game.account[side];
    }

    public int captured(int side) throws IndexOutOfBoundsException {
        needSide(side);
        return game.taken[side];
    }

    public double worthShare(int side) throws IndexOutOfBoundsException {
        needSide(side);
        int both = game.board.worthOfSide(0) + game.board.worthOfSide(1);
        if (both == 0) {
            return 0.0;
        }
        return (double) game.board.worthOfSide(side) / (double) both;
    }

    public int historySize() {
        return history.size;
    }

    // ---- what several calls share

    private int put(int side, int square, int steps, boolean leader) {
        needSide(side);
        needSquare(square);
        if (steps < 1 || steps > ALL_STEPS) {
            throw new IllegalArgumentException("no such set of steps");
        }
        if (!game.accepts(side, square, leader)) {
            throw new IllegalStateException("no such piece can be put there now");
        }
        history.remember(game);
        game.addPiece(square, Piece.of(side, steps, leader));
        return game.board.countOf(side);
    }

    private int neededPiece(int square) {
        needSquare(square);
        if (game.board.isEmpty(square)) {
            throw new NoSuchElementException("the square is empty");
        }
        return game.board.pieceOn(square);
    }

    private int exchangeTried(int square) {
        trial.copy(game.board);
        return exchangeOn(trial, square, 0);
    }

    /** Captures on the board that it is given; the depth ends with the pieces. */
    private static int exchangeOn(Board board, int square, int depth) {
        int victim = board.pieceOn(square);
        int from = board.cheapestOn(board.guardsSeenFrom(1 - Piece.sideOf(victim), square));
        if (from == NOWHERE || depth >= MOST_CAPTURES) {
            return 0;
        }
        board.carry(from, square);
        return Math.max(0, Piece.worthOf(victim) - exchangeOn(board, square, depth + 1));
    }

    private static void needSide(int side) {
        if (side != 0 && side != 1) {
            throw new IndexOutOfBoundsException("no such side");
        }
    }

    private static void needSquare(int square) {
        if (square < 0 || square >= SQUARES) {
            throw new IndexOutOfBoundsException("no such square");
        }
    }

    private static void needKind(int kind) {
        if (kind < 0 || kind >= KINDS) {
            throw new IndexOutOfBoundsException("no such kind of steps");
        }
    }

    /**
     * A piece as one number, so that a board is a row of numbers that is
     * quickly copied: its steps, and a bit each for a leader and for side 1.
     * Since a piece knows at least one kind of steps, 0 is free for no piece.
     */
    private static final class Piece {
        static final int NONE = 0;
        static final int BITS = 7;
        private static final int LEADER = 32;
        private static final int SIDE_ONE = 64;
        private static final int LEADER_WORTH = 10;
        private static final int[] KIND_WORTH = {1, 1, 3, 5, 3};

        static int of(int side, int steps, boolean leader) {
            return steps | (leader ? LEADER : 0) | (side == 1 ? SIDE_ONE : 0);
        }

        static int sideOf(int piece) {
            return (piece & SIDE_ONE) != 0 ? 1 : 0;
        }

        static int stepsOf(int piece) {
            return piece & ALL_STEPS;
        }

        static boolean leads(int piece) {
            return (piece & LEADER) != 0;
        }

        static boolean knows(int piece, int kind) {
            return (piece >> kind & 1) != 0;
        }

        static int worthOf(int piece) {
            return worthOfSteps(stepsOf(piece)) + (leads(piece) ? LEADER_WORTH : 0);
        }

        static int worthOfSteps(int steps) {
            int sum = 0;
            for (int kind = 0; kind < KINDS; kind++) {
                if (knows(steps, kind)) {
                    sum += KIND_WORTH[kind];
                }
            }
            return sum;
        }

        static int learnt(int piece, int victim) {
            return stepsOf(victim) & ~stepsOf(piece);
        }
    }

    /** The pieces on their squares, and where their steps lead. */
    private static final class Board {
        // Directions 0 to 3 are straight, 4 to 7 diagonal, 8 to 15 leaps.
        private static final int[] UP = {1, -1, 0, 0, 1, 1, -1, -1, 2, 2, 1, 1, -1, -1, -2, -2};
        private static final int[] RIGHT = {0, 0, 1, -1, 1, -1, 1, -1, 1, -1, 2, -2, 2, -2, 1, -1};
        private static final int[] FIRST_DIRECTION = {0, 4, 8, 0, 4};
        private static final int[] LAST_DIRECTION = {3, 7, 15, 3, 7};
        private static final int[] FARTHEST = {1, 1, 1, 5, 5};

        private final int[] squares = new int[SQUARES];

        void copy(Board other) {
            System.arraycopy(other.squares, 0, squares, 0, SQUARES);
        }

        int pieceOn(int square) {
            return squares[square];
        }

        void set(int square, int piece) {
            squares[square] = piece;
        }

        void carry(int from, int to) {
            squares[to] = squares[from] | Piece.learnt(squares[from], squares[to]);
            squares[from] = Piece.NONE;
        }

        boolean isEmpty(int square) {
            return squares[square] == Piece.NONE;
        }

        boolean holds(int square, int side) {
            return squares[square] != Piece.NONE && Piece.sideOf(squares[square]) == side;
        }

        long squaresOf(int side) {
            long found = 0L;
            for (int square = 0; square < SQUARES; square++) {
                if (holds(square, side)) {
                    found |= 1L << square;
                }
            }
            return found;
        }

        int countOf(int side) {
            return Long.bitCount(squaresOf(side));
        }

        long knowers(int side, int kind) {
            long found = 0L;
            for (int square = 0; square < SQUARES; square++) {
                if (holds(square, side) && Piece.knows(squares[square], kind)) {
                    found |= 1L << square;
                }
            }
            return found;
        }

        int leaderSquare(int side) {
            for (int square = 0; square < SQUARES; square++) {
                if (holds(square, side) && Piece.leads(squares[square])) {
                    return square;
                }
            }
            return NOWHERE;
        }

        int worthOfSide(int side) {
            int sum = 0;
            for (int square = 0; square < SQUARES; square++) {
                if (holds(square, side)) {
                    sum += Piece.worthOf(squares[square]);
                }
            }
            return sum;
        }

        /** The squares in a direction, up to the first piece and with its square. */
        private long line(int square, int direction, int farthest) {
            long found = 0L;
            int row = square / WIDTH;
            int column = square % WIDTH;
            for (int paces = 1; paces <= farthest; paces++) {
                row += UP[direction];
                column += RIGHT[direction];
                if (row < 0 || row >= WIDTH || column < 0 || column >= WIDTH) {
                    return found;
                }
                int target = WIDTH * row + column;
                found |= 1L << target;
                if (squares[target] != Piece.NONE) {
                    return found;
                }
            }
            return found;
        }

        private long linesOfKind(int square, int kind) {
            long found = 0L;
            for (int direction = FIRST_DIRECTION[kind]; direction <= LAST_DIRECTION[kind]; direction++) {
                found |= line(square, direction, FARTHEST[kind]);
            }
            return found;
        }

        private long guardedFrom(int square) {
            long found = 0L;
            for (int kind = 0; kind < KINDS; kind++) {
                if (Piece.knows(squares[square], kind)) {
                    found |= linesOfKind(square, kind);
                }
            }
            return found;
        }

        long reachFrom(int square) {
            return guardedFrom(square) & ~squaresOf(Piece.sideOf(squares[square]));
        }

        int movesOf(int side) {
            int sum = 0;
            long own = squaresOf(side);
            for (int square = 0; square < SQUARES; square++) {
                if (holds(square, side)) {
                    sum += Long.bitCount(guardedFrom(square) & ~own);
                }
            }
            return sum;
        }

        long guardedBy(int side) {
            long found = 0L;
            for (int square = 0; square < SQUARES; square++) {
                if (holds(square, side)) {
                    found |= guardedFrom(square);
                }
            }
            return found;
        }

        int countGuardsAlong(int side, int target) {
            int count = 0;
            for (int square = 0; square < SQUARES; square++) {
                if (holds(square, side) && (guardedFrom(square) >> target & 1L) != 0L) {
                    count++;
                }
            }
            return count;
        }

        /** Each kind of steps leads back the way it came: what it meets from the target, guards it. */
        long guardsSeenFrom(int side, int target) {
            long found = 0L;
            for (int kind = 0; kind < KINDS; kind++) {
                found |= linesOfKind(target, kind) & knowers(side, kind);
            }
            return found;
        }

        /** Of some squares with pieces the one with the least worth, of several the lowest. */
        int cheapestOn(long among) {
            int found = NOWHERE;
            int least = 0;
            for (int square = 0; square < SQUARES; square++) {
                if ((among >> square & 1L) != 0L) {
                    int value = Piece.worthOf(squares[square]);
                    if (found == NOWHERE || value < least) {
                        found = square;
                        least = value;
                    }
                }
            }
            return found;
        }

        /** The pieces of a quarter of the squares in one number, to compare boards by. */
        long quarter(int number) {
            long packed = 0L;
            int first = number * SQUARES / 4;
            int end = (number + 1) * SQUARES / 4;
            for (int square = first; square < end; square++) {
                packed = packed << Piece.BITS | (long) squares[square];
            }
            return packed;
        }
    }

    /** A board that came up in the game, and behind it those that came up before. */
    private static final class Position {
        private final Position earlier;
        private final int turn;
        private final long quarter0;
        private final long quarter1;
        private final long quarter2;
        private final long quarter3;
        final int times;

        Position(Position earlier, Board board, int turn) {
            this.earlier = earlier;
            this.turn = turn;
            quarter0 = board.quarter(0);
            quarter1 = board.quarter(1);
            quarter2 = board.quarter(2);
            quarter3 = board.quarter(3);
            times = 1 + timesBefore();
        }

        private int timesBefore() {
            for (Position other = earlier; other != null; other = other.earlier) {
                if (looksLike(other)) {
                    return other.times;
                }
            }
            return 0;
        }

        private boolean looksLike(Position other) {
            return turn == other.turn
                    && quarter0 == other.quarter0
                    && quarter1 == other.quarter1
                    && quarter2 == other.quarter2
                    && quarter3 == other.quarter3;
        }
    }

    /** What the history calls a state: all but the text and the history. */
    private static final class Game {
        static final int NO_REASON = 0;
        private static final int NOT_RUNNING = 1;
        private static final int NO_PIECE = 2;
        private static final int OWN_PIECE = 3;
        private static final int NO_STEP = 4;

        final Board board = new Board();
        final int[] account = new int[2];
        final int[] taken = new int[2];
        int turn = 0;
        int made = 0;
        boolean over = false;
        int champion = NOBODY;
        // Positions are never changed, so states that share a past share them.
        private Position latest = null;

        void copy(Game other) {
            board.copy(other.board);
            for (int side = 0; side < 2; side++) {
                account[side] = other.account[side];
                taken[side] = other.taken[side];
            }
            turn = other.turn;
            made = other.made;
            over = other.over;
            champion = other.champion;
            latest = other.latest;
        }

        boolean hasStarted() {
            return latest != null;
        }

        int timesOfBoard() {
            return latest == null ? 0 : latest.times;
        }

        boolean accepts(int side, int square, boolean leader) {
            return !hasStarted()
                    && board.isEmpty(square)
                    && board.countOf(side) < MOST_PIECES
                    && !(leader && board.leaderSquare(side) != NOWHERE);
        }

        void addPiece(int square, int piece) {
            board.set(square, piece);
            account[Piece.sideOf(piece)] += Piece.worthOf(piece);
        }

        int removePiece(int square) {
            int piece = board.pieceOn(square);
            int value = Piece.worthOf(piece);
            board.set(square, Piece.NONE);
            account[Piece.sideOf(piece)] -= value;
            return value;
        }

        boolean canBegin() {
            return !hasStarted()
                    && board.leaderSquare(0) != NOWHERE
                    && board.leaderSquare(1) != NOWHERE;
        }

        int begin() {
            int moves = board.movesOf(turn);
            latest = new Position(latest, board, turn);
            over = moves == 0;
            return moves;
        }

        int reasonAgainst(int from, int to) {
            if (!hasStarted() || over) {
                return NOT_RUNNING;
            }
            if (!board.holds(from, turn)) {
                return NO_PIECE;
            }
            if (board.holds(to, turn)) {
                return OWN_PIECE;
            }
            boolean leadsThere = (board.reachFrom(from) >> to & 1L) != 0L;
            return leadsThere ? NO_REASON : NO_STEP;
        }

        int makeMove(int from, int to) {
            int victim = board.pieceOn(to);
            int gain = Piece.worthOf(victim);
            int other = 1 - turn;
            account[turn] += Piece.worthOfSteps(Piece.learnt(board.pieceOn(from), victim));
            account[other] -= gain;
            taken[turn] += gain;
            if (Piece.leads(victim)) {
                champion = turn;
            }
            board.carry(from, to);
            made++;
            turn = other;
            latest = new Position(latest, board, turn);
            over = champion != NOBODY || timesOfBoard() >= DRAWING_TIMES || board.movesOf(turn) == 0;
            return gain;
        }
    }

    /** The latest states, the oldest one first. */
    private static final class History {
        private static final int MOST_STATES = 5;

        private final Game[] states = new Game[MOST_STATES];
        int size = 0;

        History() {
            for (int i = 0; i < MOST_STATES; i++) {
                states[i] = new Game();
            }
        }

        void remember(Game game) {
            if (size >= MOST_STATES) {
                dropOldest();
            }
            states[size].copy(game);
            size++;
        }

        // The dropped state's object goes to the end, to be filled again.
        private void dropOldest() {
            Game oldest = states[0];
            for (int i = 1; i < MOST_STATES; i++) {
                states[i - 1] = states[i];
            }
            states[MOST_STATES - 1] = oldest;
            size--;
        }

        void restore(Game game) {
            if (size > 0) {
                size--;
                game.copy(states[size]);
            }
        }
    }

    /** The text buffer; a list of moves has the same sort of sign at each fifth place. */
    private static final class MoveText {
        private static final int MOST_CHARACTERS = 60;
        private static final int PERIOD = 5;
        private static final int MOVE_LENGTH = 4;

        private final char[] characters = new char[MOST_CHARACTERS];
        private int length = 0;

        boolean isFull() {
            return length >= MOST_CHARACTERS;
        }

        int add(char character) {
            if (length < MOST_CHARACTERS) {
                characters[length] = character;
                length++;
            }
            return length;
        }

        int empty() {
            int before = length;
            length = 0;
            return before;
        }

        boolean isList() {
            return length % PERIOD == MOVE_LENGTH && firstMisfit() == length;
        }

        int firstMisfit() {
            for (int index = 0; index < length; index++) {
                if (!fits(index)) {
                    return index;
                }
            }
            return length;
        }

        private boolean fits(int index) {
            char character = characters[index];
            switch (index % PERIOD) {
                case 0:
                case 2:
                    return character >= 'a' && character <= 'f';
                case 1:
                    return isDigit(character);
                case 3:
                    return isDigit(character) && endsElsewhere(index);
                default:
                    return character == ' ';
            }
        }

        private static boolean isDigit(char character) {
            return character >= '1' && character <= '6';
        }

        /** Tells of a move's last sign whether its squares differ. */
        private boolean endsElsewhere(int last) {
            return last < 3
                    || characters[last] != characters[last - 2]
                    || characters[last - 1] != characters[last - 3];
        }

        int movesListed() {
            return (length + 1) / PERIOD;
        }

        int firstSquareOf(int number) {
            return squareAt(PERIOD * number);
        }

        int secondSquareOf(int number) {
            return squareAt(PERIOD * number + 2);
        }

        private int squareAt(int index) {
            return WIDTH * (characters[index + 1] - '1') + (characters[index] - 'a');
        }
    }
}
