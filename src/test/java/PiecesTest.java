/** Promises 14 to 19: pieces, sideAt, stepsAt, worthAt, leaderOf, knowing. */
public final class PiecesTest {
    private static final int[] NO_SIDES = {-1, 2, Integer.MAX_VALUE, Integer.MIN_VALUE};
    private static final int[] NO_SQUARES = {-1, 36, Integer.MAX_VALUE, Integer.MIN_VALUE};
    private static final int[] NO_KINDS = {-1, 5, Integer.MAX_VALUE, Integer.MIN_VALUE};

    public static void main(String[] args) {
        promise14();
        promises15To17();
        promise17EachSet();
        promise18();
        promise19();
        wrongArguments();
        Check.finish();
    }

    private static BrackenGambit sample() {
        BrackenGambit game = new BrackenGambit();
        game.putLeader(0, 0, 1);
        game.putLeader(1, 35, 18);
        game.putPiece(0, 5, 12);
        game.putPiece(0, 30, 31);
        game.putPiece(1, 11, 4);
        return game;
    }

    private static void promise14() {
        BrackenGambit game = sample();
        Check.same("14: side 0", game.pieces(0), 3);
        Check.same("14: side 1", game.pieces(1), 2);
        game.takeAway(5);
        Check.same("14: taken away", game.pieces(0), 2);
        game.start();
        game.move(30, 34);
        Check.same("14: no capture yet", game.pieces(1), 2);
        game.move(35, 28);
        game.move(34, 28);
        Check.same("14: captured", game.pieces(1), 1);
        Check.same("14: not the capturing side", game.pieces(0), 2);
    }

    private static void promises15To17() {
        BrackenGambit game = sample();
        int[] squares = {0, 35, 5, 30, 11};
        int[] sides = {0, 1, 0, 0, 1};
        int[] steps = {1, 18, 12, 31, 4};
        int[] worths = {11, 14, 8, 13, 3};
        for (int i = 0; i < squares.length; i++) {
            Check.same("15: " + squares[i], game.sideAt(squares[i]), sides[i]);
            Check.same("16: " + squares[i], game.stepsAt(squares[i]), steps[i]);
            Check.same("17: " + squares[i], game.worthAt(squares[i]), worths[i]);
        }
        Check.refused("15: empty", game, Check.NO_ELEMENT, () -> game.sideAt(1));
        Check.refused("16: empty", game, Check.NO_ELEMENT, () -> game.stepsAt(34));
        Check.refused("17: empty", game, Check.NO_ELEMENT, () -> game.worthAt(6));
    }

    private static void promise17EachSet() {
        int[] kinds = {1, 1, 3, 5, 3};
        for (int steps = 1; steps < 32; steps++) {
            int due = 0;
            for (int kind = 0; kind < 5; kind++) {
                due += (steps & 1 << kind) != 0 ? kinds[kind] : 0;
            }
            BrackenGambit game = new BrackenGambit();
            game.putPiece(1, 20, steps);
            game.putLeader(1, 21, steps);
            Check.same("16: set " + steps, game.stepsAt(20), steps);
            Check.same("16: leader's set " + steps, game.stepsAt(21), steps);
            Check.same("17: set " + steps, game.worthAt(20), due);
            Check.same("17: leader's set " + steps, game.worthAt(21), due + 10);
        }
    }

    private static void promise18() {
        BrackenGambit game = sample();
        Check.same("18: side 0", game.leaderOf(0), 0);
        Check.same("18: side 1", game.leaderOf(1), 35);
        game.start();
        game.move(0, 1);
        Check.same("18: moved", game.leaderOf(0), 1);
        game.move(11, 22);
        Check.same("18: not what moved", game.leaderOf(1), 35);
        game.move(30, 35);
        Check.refused("18: captured", game, Check.NO_ELEMENT, () -> game.leaderOf(1));
        Check.same("18: the captor is none", game.leaderOf(0), 1);
        BrackenGambit without = new BrackenGambit();
        without.putPiece(0, 3, 31);
        Check.refused("18: none", without, Check.NO_ELEMENT, () -> without.leaderOf(0));
        Check.refused("18: no pieces", without, Check.NO_ELEMENT, () -> without.leaderOf(1));
    }

    private static void promise19() {
        BrackenGambit game = sample();
        int[] side0 = {2, 1, 2, 2, 1};
        int[] side1 = {0, 1, 1, 0, 1};
        for (int kind = 0; kind < 5; kind++) {
            Check.same("19: side 0 kind " + kind, game.knowing(0, kind), side0[kind]);
            Check.same("19: side 1 kind " + kind, game.knowing(1, kind), side1[kind]);
        }
        BrackenGambit learning = new BrackenGambit();
        learning.putLeader(0, 0, 1);
        learning.putLeader(1, 1, 24);
        learning.start();
        learning.move(0, 1);
        Check.same("19: learnt", learning.knowing(0, 4), 1);
        Check.same("19: captured", learning.knowing(1, 4), 0);
    }

    private static void wrongArguments() {
        BrackenGambit game = sample();
        for (int side : NO_SIDES) {
            Check.refused("14: side " + side, game, Check.INDEX, () -> game.pieces(side));
            Check.refused("18: side " + side, game, Check.INDEX, () -> game.leaderOf(side));
            Check.refused("19: side " + side, game, Check.INDEX, () -> game.knowing(side, 0));
        }
        for (int square : NO_SQUARES) {
            Check.refused("15: square " + square, game, Check.INDEX, () -> game.sideAt(square));
            Check.refused("16: square " + square, game, Check.INDEX, () -> game.stepsAt(square));
            Check.refused("17: square " + square, game, Check.INDEX, () -> game.worthAt(square));
        }
        for (int kind : NO_KINDS) {
            Check.refused("19: kind " + kind, game, Check.INDEX, () -> game.knowing(1, kind));
        }
    }
}
