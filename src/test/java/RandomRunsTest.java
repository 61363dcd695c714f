import java.util.ArrayList;
import java.util.List;
import java.util.Random;

/** Runs of random calls, each answered by the class and by the model alike. */
public final class RandomRunsTest {
    private static final int RUNS = 120;
    private static final int CALLS = 512;

    private final Random random;
    private final BrackenGambit game = new BrackenGambit();
    private final Model model = new Model();
    private final String name;
    private String lastOutcome = "";

    private static int won = 0;
    private static int drawn = 0;
    private static int undone = 0;
    private static int exchanged = 0;
    private static int playedWhole = 0;

    private RandomRunsTest(int run) {
        random = new Random(run);
        name = "run " + run;
    }

    public static void main(String[] args) {
        for (int run = 0; run < RUNS; run++) {
            new RandomRunsTest(run).run(run % 4);
        }
        Check.same("the runs had won games", won > 10, true);
        Check.same("the runs had drawn games", drawn > 10, true);
        Check.same("the runs had undone ends", undone > 5, true);
        Check.same("the runs had worthy exchanges", exchanged > 1000, true);
        Check.same("the runs had texts played whole", playedWhole > 50, true);
        Check.finish();
    }

    private void run(int manner) {
        int put = manner == 0 ? 0 : manner == 1 ? 2 + random.nextInt(2) : 16;
        if (manner != 0) {
            setUp(put, manner == 3);
        }
        for (int call = 0; call < CALLS; call++) {
            boolean wasOver = model.isOver();
            switch (random.nextInt(manner == 0 ? 4 : 9)) {
                case 0: changeAtRandom(); break;
                case 1: writeAtRandom(); break;
                case 2: askAtRandom(); break;
                case 3: askAtRandom(); break;
                case 4: writeMoves(); break;
                default: moveWell(manner == 1); break;
            }
            if (model.isOver() && !wasOver) {
                countEnd();
                if (random.nextInt(2) == 0) {
                    both("undo()", game::undo, model::undo);
                    undone++;
                }
            }
            if (call % 16 == 0) {
                askAll();
            }
        }
    }

    private void countEnd() {
        if (Check.outcome(model::winner).startsWith("throws")) {
            drawn++;
        } else {
            won++;
        }
    }

    private void both(String call, Check.Call one, Check.Call other) {
        lastOutcome = Check.outcome(one);
        Check.same(name + ": " + call, lastOutcome, Check.outcome(other));
    }

    private void setUp(int pieces, boolean strong) {
        putLeader(0, random.nextInt(12), 1 + random.nextInt(3));
        putLeader(1, 24 + random.nextInt(12), 1 + random.nextInt(3));
        for (int i = 2; i < pieces; i++) {
            putPiece(i % 2, random.nextInt(36), strong ? 1 + random.nextInt(31) : 1 << random.nextInt(5));
        }
        both("start()", game::start, model::start);
    }

    private void putPiece(int side, int square, int steps) {
        both("putPiece(" + side + ", " + square + ", " + steps + ")",
                () -> game.putPiece(side, square, steps), () -> model.putPiece(side, square, steps));
    }

    private void putLeader(int side, int square, int steps) {
        both("putLeader(" + side + ", " + square + ", " + steps + ")",
                () -> game.putLeader(side, square, steps), () -> model.putLeader(side, square, steps));
    }

    private void move(int from, int to) {
        both("move(" + from + ", " + to + ")", () -> game.move(from, to), () -> model.move(from, to));
    }

    /** Mostly a number there is, now and then one beyond it. */
    private int number(int count) {
        return random.nextInt(12) == 0 ? random.nextInt(count + 4) - 2 : random.nextInt(count);
    }

    private void changeAtRandom() {
        int square = number(36);
        switch (random.nextInt(9)) {
            case 0:
            case 1:
            case 2: putPiece(number(2), square, random.nextInt(10) == 0 ? number(34) : 1 + random.nextInt(31)); break;
            case 3: putLeader(number(2), square, 1 + random.nextInt(32)); break;
            case 4: both("takeAway(" + square + ")", () -> game.takeAway(square), () -> model.takeAway(square)); break;
            case 5: if (random.nextInt(8) == 0) both("start()", game::start, model::start); break;
            case 6: move(square, number(36)); break;
            case 7: both("play()", game::play, model::play); break;
            default: both("undo()", game::undo, model::undo); break;
        }
    }

    private void append(char character) {
        both("append(" + (int) character + ")", () -> game.append(character), () -> model.append(character));
    }

    private void askText() {
        both("isValid()", game::isValid, model::isValid);
        both("firstError()", game::firstError, model::firstError);
    }

    private void writeAtRandom() {
        if (random.nextInt(6) == 0) {
            both("clearText()", game::clearText, model::clearText);
        }
        int letters = random.nextInt(8);
        String signs = random.nextInt(4) == 0 ? "abcdefg1234567 0Aé" : "ab12 ";
        for (int i = 0; i < letters; i++) {
            append(signs.charAt(random.nextInt(signs.length())));
        }
        askText();
    }

    /** A text of moves of which some may be made, for each side in turn. */
    private void writeMoves() {
        if (random.nextInt(3) != 0) {
            return;
        }
        both("clearText()", game::clearText, model::clearText);
        int moves = 1 + random.nextInt(12);
        List<int[]> written = new ArrayList<>();
        for (int i = 0; i < moves; i++) {
            int[] move = i >= 2 && random.nextInt(2) == 0 && written.get(i - 2) != null
                    ? new int[] {written.get(i - 2)[1], written.get(i - 2)[0]}
                    : possibleMove((model.toMove() + i) % 2);
            written.add(move);
            if (move == null) {
                break;
            }
            if (i > 0) {
                append(' ');
            }
            for (int square : move) {
                append((char) ('a' + square % 6));
                append((char) ('1' + square / 6));
            }
        }
        askText();
        both("play()", game::play, model::play);
        if (lastOutcome.equals(String.valueOf(moves))) {
            playedWhole++;
        }
    }

    private int[] possibleMove(int side) {
        List<int[]> moves = new ArrayList<>();
        for (int from = 0; from < 36; from++) {
            int at = from;
            if (Check.outcome(() -> model.sideAt(at)).equals(String.valueOf(side))) {
                long reach = model.reach(from);
                for (int to = 0; to < 36; to++) {
                    if ((reach >> to & 1L) != 0) {
                        moves.add(new int[] {from, to});
                    }
                }
            }
        }
        return moves.isEmpty() ? null : moves.get(random.nextInt(moves.size()));
    }

    /** A possible move; to and fro, if boards are to come up again. */
    private void moveWell(boolean toAndFro) {
        int[] move = possibleMove(model.toMove());
        if (move == null) {
            return;
        }
        move(move[0], move[1]);
        if (toAndFro) {
            int[] answer = possibleMove(model.toMove());
            if (answer != null) {
                move(answer[0], answer[1]);
                move(move[1], move[0]);
                move(answer[1], answer[0]);
            }
        }
    }

    private void askAtRandom() {
        int side = number(2);
        int square = number(36);
        int other = number(36);
        int kind = number(5);
        both("whyNot(" + square + ", " + other + ")", () -> game.whyNot(square, other), () -> model.whyNot(square, other));
        askSquare(square);
        askSide(side);
        askOn(side, square);
        both("knowing(" + side + ", " + kind + ")", () -> game.knowing(side, kind), () -> model.knowing(side, kind));
        askGame();
    }

    private void askAll() {
        for (int square = 0; square < 36; square++) {
            askSquare(square);
            askOn(0, square);
            askOn(1, square);
        }
        askSide(0);
        askSide(1);
        askGame();
    }

    private void askSquare(int square) {
        both("sideAt(" + square + ")", () -> game.sideAt(square), () -> model.sideAt(square));
        both("stepsAt(" + square + ")", () -> game.stepsAt(square), () -> model.stepsAt(square));
        both("worthAt(" + square + ")", () -> game.worthAt(square), () -> model.worthAt(square));
        both("reach(" + square + ")", () -> game.reach(square), () -> model.reach(square));
        both("exchange(" + square + ")", () -> game.exchange(square), () -> model.exchange(square));
        if (!lastOutcome.startsWith("throws") && !lastOutcome.equals("0")) {
            exchanged++;
        }
    }

    private void askOn(int side, int square) {
        String at = "(" + side + ", " + square + ")";
        both("guards" + at, () -> game.guards(side, square), () -> model.guards(side, square));
        both("guardsByLooking" + at, () -> game.guardsByLooking(side, square), () -> model.guards(side, square));
    }

    private void askSide(int side) {
        String of = "(" + side + ")";
        both("pieces" + of, () -> game.pieces(side), () -> model.pieces(side));
        both("leaderOf" + of, () -> game.leaderOf(side), () -> model.leaderOf(side));
        both("moveCount" + of, () -> game.moveCount(side), () -> model.moveCount(side));
        both("guarded" + of, () -> game.guarded(side), () -> model.guarded(side));
        both("weakest" + of, () -> game.weakest(side), () -> model.weakest(side));
        both("worth" + of, () -> game.worth(side), () -> model.worth(side));
        both("worthByAccount" + of, () -> game.worthByAccount(side), () -> model.worth(side));
        both("captured" + of, () -> game.captured(side), () -> model.captured(side));
        both("worthShare" + of, () -> game.worthShare(side), () -> model.worthShare(side));
    }

    private void askGame() {
        both("toMove()", game::toMove, model::toMove);
        both("isOver()", game::isOver, model::isOver);
        both("winner()", game::winner, model::winner);
        both("repetitions()", game::repetitions, model::repetitions);
        both("movesMade()", game::movesMade, model::movesMade);
        both("historySize()", game::historySize, model::historySize);
    }
}
