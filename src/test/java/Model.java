import java.util.ArrayList;
import java.util.Collections;
import java.util.List;
import java.util.NoSuchElementException;

/**
 * The document's game once more, as plainly as its words go and without regard
 * to speed: men in a list, steps told by the distance of squares, texts tried out.
 */
final class Model {
    static final class Man {
        final int side;
        final int square;
        final int steps;
        final boolean leader;

        Man(int side, int square, int steps, boolean leader) {
            this.side = side;
            this.square = square;
            this.steps = steps;
            this.leader = leader;
        }

        int worth() {
            int[] kinds = {1, 1, 3, 5, 3};
            int sum = leader ? 10 : 0;
            for (int kind = 0; kind < 5; kind++) {
                sum += knows(kind) ? kinds[kind] : 0;
            }
            return sum;
        }

        boolean knows(int kind) {
            return (steps & 1 << kind) != 0;
        }

        @Override
        public String toString() {
            return square + ":" + side + ":" + steps + ":" + leader;
        }
    }

    private static final class State {
        List<Man> men = new ArrayList<>();
        List<String> boards = new ArrayList<>();
        boolean started;
        boolean over;
        int winner = -1;
        int turn;
        int made;
        int[] captured = new int[2];

        State copy() {
            State other = new State();
            other.men = new ArrayList<>(men);
            other.boards = new ArrayList<>(boards);
            other.started = started;
            other.over = over;
            other.winner = winner;
            other.turn = turn;
            other.made = made;
            other.captured = captured.clone();
            return other;
        }
    }

    private State now = new State();
    private final List<State> history = new ArrayList<>();
    private String text = "";

    // ---- before the game

    int putPiece(int side, int square, int steps) {
        return put(new Man(side, square, steps, false));
    }

    int putLeader(int side, int square, int steps) {
        return put(new Man(side, square, steps, true));
    }

    private int put(Man man) {
        checkSide(man.side);
        checkSquare(man.square);
        if (man.steps < 1 || man.steps > 31) {
            throw new IllegalArgumentException();
        }
        checkState(!now.started && manAt(now.men, man.square) == null && menOf(man.side).size() < 8);
        checkState(!man.leader || menOf(man.side).stream().noneMatch(m -> m.leader));
        record();
        now.men.add(man);
        return menOf(man.side).size();
    }

    int takeAway(int square) {
        checkSquare(square);
        Man man = manAt(now.men, square);
        checkState(!now.started && man != null);
        record();
        now.men.remove(man);
        return man.worth();
    }

    int start() {
        checkState(!now.started);
        for (int side = 0; side < 2; side++) {
            checkState(menOf(side).stream().anyMatch(m -> m.leader));
        }
        record();
        now.started = true;
        now.boards.add(board());
        now.over = moveCount(0) == 0;
        return moveCount(0);
    }

    // ---- moves

    int move(int from, int to) {
        checkState(whyNot(from, to) == 0);
        record();
        return makeMove(from, to);
    }

    private int makeMove(int from, int to) {
        Man captured = manAt(now.men, to);
        now.men = afterMove(now.men, from, to);
        int worth = captured == null ? 0 : captured.worth();
        now.captured[now.turn] += worth;
        now.made++;
        if (captured != null && captured.leader) {
            now.over = true;
            now.winner = now.turn;
        }
        now.turn = 1 - now.turn;
        now.boards.add(board());
        if (repetitions() == 3 || moveCount(now.turn) == 0) {
            now.over = true;
        }
        return worth;
    }

    int play() {
        if (!isValid()) {
            throw new IllegalArgumentException();
        }
        record();
        int made = 0;
        for (String words : text.split(" ")) {
            int from = squareOf(words.substring(0, 2));
            int to = squareOf(words.substring(2));
            if (whyNot(from, to) != 0) {
                break;
            }
            makeMove(from, to);
            made++;
        }
        return made;
    }

    int whyNot(int from, int to) {
        checkSquare(from);
        checkSquare(to);
        Man first = manAt(now.men, from);
        Man second = manAt(now.men, to);
        if (!now.started || now.over) {
            return 1;
        }
        if (first == null || first.side != now.turn) {
            return 2;
        }
        if (second != null && second.side == now.turn) {
            return 3;
        }
        return canCapture(now.men, first, to) ? 0 : 4;
    }

    // ---- text

    int append(char character) {
        checkState(text.length() < 60);
        text = text + character;
        return text.length();
    }

    int clearText() {
        int length = text.length();
        text = "";
        return length;
    }

    boolean isValid() {
        return isList(text);
    }

    int firstError() {
        checkState(!isValid());
        for (int index = 0; index < text.length(); index++) {
            if (!canBecomeList(text.substring(0, index + 1), 4)) {
                return index;
            }
        }
        return text.length();
    }

    private static boolean isList(String text) {
        for (String move : text.split(" ", -1)) {
            if (!move.matches("[a-f][1-6][a-f][1-6]") || move.substring(0, 2).equals(move.substring(2))) {
                return false;
            }
        }
        return true;
    }

    private static boolean canBecomeList(String text, int more) {
        if (isList(text)) {
            return true;
        }
        if (more > 0) {
            for (char next : "ab12".toCharArray()) {
                if (canBecomeList(text + next, more - 1)) {
                    return true;
                }
            }
        }
        return false;
    }

    // ---- history

    private void record() {
        history.add(now.copy());
        if (history.size() > 5) {
            history.remove(0);
        }
    }

    int undo() {
        checkState(!history.isEmpty());
        now = history.remove(history.size() - 1);
        return history.size();
    }

    int historySize() {
        return history.size();
    }

    // ---- queries about pieces

    int pieces(int side) {
        checkSide(side);
        return menOf(side).size();
    }

    int sideAt(int square) {
        return neededMan(square).side;
    }

    int stepsAt(int square) {
        return neededMan(square).steps;
    }

    int worthAt(int square) {
        return neededMan(square).worth();
    }

    int leaderOf(int side) {
        checkSide(side);
        for (Man man : menOf(side)) {
            if (man.leader) {
                return man.square;
            }
        }
        throw new NoSuchElementException();
    }

    int knowing(int side, int kind) {
        checkSide(side);
        if (kind < 0 || kind > 4) {
            throw new IndexOutOfBoundsException();
        }
        return (int) menOf(side).stream().filter(m -> m.knows(kind)).count();
    }

    // ---- moves and guards

    long reach(int square) {
        Man man = neededMan(square);
        long found = 0L;
        for (int to = 0; to < 36; to++) {
            Man there = manAt(now.men, to);
            if ((there == null || there.side != man.side) && canCapture(now.men, man, to)) {
                found |= 1L << to;
            }
        }
        return found;
    }

    int moveCount(int side) {
        checkSide(side);
        int sum = 0;
        for (Man man : menOf(side)) {
            sum += Long.bitCount(reach(man.square));
        }
        return sum;
    }

    int guards(int side, int square) {
        checkSide(side);
        checkSquare(square);
        return (int) menOf(side).stream().filter(m -> canCapture(now.men, m, square)).count();
    }

    long guarded(int side) {
        checkSide(side);
        long found = 0L;
        for (int square = 0; square < 36; square++) {
            if (guards(side, square) > 0) {
                found |= 1L << square;
            }
        }
        return found;
    }

    int exchange(int square) {
        neededMan(square);
        return exchange(now.men, square);
    }

    int weakest(int side) {
        checkSide(side);
        int most = menOf(side).stream().mapToInt(m -> exchange(m.square)).max().orElse(0);
        for (Man man : menOf(side)) {
            if (most > 0 && exchange(man.square) == most) {
                return man.square;
            }
        }
        throw new NoSuchElementException();
    }

    private static int exchange(List<Man> men, int square) {
        Man victim = manAt(men, square);
        Man best = null;
        for (int from = 0; from < 36; from++) {
            Man man = manAt(men, from);
            if (man != null && man.side != victim.side && canCapture(men, man, square)
                    && (best == null || man.worth() < best.worth())) {
                best = man;
            }
        }
        if (best == null) {
            return 0;
        }
        int then = exchange(afterMove(men, best.square, square), square);
        return Math.max(0, victim.worth() - then);
    }

    // ---- the game

    int toMove() {
        return now.turn;
    }

    boolean isOver() {
        return now.over;
    }

    int winner() {
        if (now.winner < 0) {
            throw new NoSuchElementException();
        }
        return now.winner;
    }

    int repetitions() {
        return now.started ? Collections.frequency(now.boards, board()) : 0;
    }

    int movesMade() {
        return now.made;
    }

    // ---- totals

    int worth(int side) {
        checkSide(side);
        return menOf(side).stream().mapToInt(Man::worth).sum();
    }

    int captured(int side) {
        checkSide(side);
        return now.captured[side];
    }

    double worthShare(int side) {
        checkSide(side);
        return now.men.isEmpty() ? 0.0 : (double) worth(side) / (worth(0) + worth(1));
    }

    // ---- what several calls share

    /** Whether a man could capture on a square, whatever stands there. */
    private static boolean canCapture(List<Man> men, Man man, int to) {
        int up = Math.abs(to / 6 - man.square / 6);
        int right = Math.abs(to % 6 - man.square % 6);
        boolean straight = (up == 0) != (right == 0);
        boolean diagonal = up == right && up > 0;
        return man.knows(0) && up + right == 1
                || man.knows(1) && up == 1 && right == 1
                || man.knows(2) && up * right == 2
                || man.knows(3) && straight && isFree(men, man.square, to)
                || man.knows(4) && diagonal && isFree(men, man.square, to);
    }

    private static boolean isFree(List<Man> men, int from, int to) {
        int up = Integer.signum(to / 6 - from / 6);
        int right = Integer.signum(to % 6 - from % 6);
        for (int between = from + 6 * up + right; between != to; between += 6 * up + right) {
            if (manAt(men, between) != null) {
                return false;
            }
        }
        return true;
    }

    private static List<Man> afterMove(List<Man> men, int from, int to) {
        List<Man> after = new ArrayList<>(men);
        Man man = manAt(men, from);
        Man captured = manAt(men, to);
        after.remove(man);
        after.remove(captured);
        int learnt = captured == null ? 0 : captured.steps;
        after.add(new Man(man.side, to, man.steps | learnt, man.leader));
        return after;
    }

    private static Man manAt(List<Man> men, int square) {
        for (Man man : men) {
            if (man.square == square) {
                return man;
            }
        }
        return null;
    }

    private Man neededMan(int square) {
        checkSquare(square);
        Man man = manAt(now.men, square);
        if (man == null) {
            throw new NoSuchElementException();
        }
        return man;
    }

    private List<Man> menOf(int side) {
        List<Man> found = new ArrayList<>();
        for (int square = 0; square < 36; square++) {
            Man man = manAt(now.men, square);
            if (man != null && man.side == side) {
                found.add(man);
            }
        }
        return found;
    }

    private String board() {
        StringBuilder board = new StringBuilder("to move " + now.turn);
        for (int square = 0; square < 36; square++) {
            board.append(' ').append(manAt(now.men, square));
        }
        return board.toString();
    }

    private static int squareOf(String name) {
        return 6 * (name.charAt(1) - '1') + name.charAt(0) - 'a';
    }

    private static void checkSide(int side) {
        if (side < 0 || side > 1) {
            throw new IndexOutOfBoundsException();
        }
    }

    private static void checkSquare(int square) {
        if (square < 0 || square > 35) {
            throw new IndexOutOfBoundsException();
        }
    }

    private static void checkState(boolean holds) {
        if (!holds) {
            throw new IllegalStateException();
        }
    }
}
