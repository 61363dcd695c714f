/** Promises 1 to 5: a new object, putPiece, putLeader, takeAway, start. */
public final class BeforeTheGameTest {
    private static final int[] NO_SIDES = {-1, 2, Integer.MAX_VALUE, Integer.MIN_VALUE};
    private static final int[] NO_SQUARES = {-1, 36, Integer.MAX_VALUE, Integer.MIN_VALUE};
    private static final int[] NO_STEPS = {0, 32, -1, 33, Integer.MAX_VALUE, Integer.MIN_VALUE};

    public static void main(String[] args) {
        promise1();
        promise2();
        promise2Edges();
        promise3();
        promise3Edges();
        promise4();
        promise5();
        promise5Edges();
        Check.finish();
    }

    private static void promise1() {
        BrackenGambit game = new BrackenGambit();
        for (int square = 0; square < 36; square++) {
            int at = square;
            Check.refused("1: nothing on " + at, game, Check.NO_ELEMENT, () -> game.sideAt(at));
        }
        for (int side = 0; side < 2; side++) {
            Check.same("1: pieces", game.pieces(side), 0);
            Check.same("1: worth", game.worth(side), 0);
            Check.same("1: account", game.worthByAccount(side), 0);
            Check.same("1: captured", game.captured(side), 0);
            Check.same("1: share", game.worthShare(side), 0.0);
            Check.same("1: guarded", game.guarded(side), 0L);
            Check.same("1: moves", game.moveCount(side), 0);
        }
        Check.same("1: to move", game.toMove(), 0);
        Check.same("1: over", game.isOver(), false);
        Check.same("1: repetitions", game.repetitions(), 0);
        Check.same("1: moves made", game.movesMade(), 0);
        Check.same("1: history", game.historySize(), 0);
        Check.same("1: text", game.clearText(), 0);
        Check.same("1: not started", game.whyNot(0, 1), 1);
    }

    private static void promise2() {
        BrackenGambit game = new BrackenGambit();
        Check.same("2: first", game.putPiece(0, 0, 1), 1);
        Check.same("2: second", game.putPiece(0, 35, 31), 2);
        Check.same("2: of the other side", game.putPiece(1, 17, 6), 1);
        Check.same("2: side", game.sideAt(17), 1);
        Check.same("2: steps", game.stepsAt(17), 6);
        Check.same("2: all steps", game.stepsAt(35), 31);
        Check.same("2: no leader", game.worthAt(35), 13);
        Check.refused("2: leader", game, Check.NO_ELEMENT, () -> game.leaderOf(0));
        Check.same("2: modifications", game.historySize(), 3);
        game.undo();
        Check.refused("2: undone", game, Check.NO_ELEMENT, () -> game.sideAt(17));
        Check.same("2: undone pieces", game.pieces(1), 0);
    }

    private static void promise2Edges() {
        BrackenGambit game = new BrackenGambit();
        for (int side : NO_SIDES) {
            Check.refused("2: side " + side, game, Check.INDEX, () -> game.putPiece(side, 0, 0));
        }
        for (int square : NO_SQUARES) {
            Check.refused("2: square " + square, game, Check.INDEX, () -> game.putPiece(0, square, 0));
        }
        for (int steps : NO_STEPS) {
            Check.refused("2: steps " + steps, game, Check.ARGUMENT, () -> game.putPiece(1, 35, steps));
        }
        for (int square = 0; square < 8; square++) {
            Check.same("2: up to 8", game.putPiece(1, square, 1), square + 1);
        }
        Check.refused("2: a ninth", game, Check.STATE, () -> game.putPiece(1, 8, 1));
        Check.refused("2: steps first", game, Check.ARGUMENT, () -> game.putPiece(1, 8, 32));
        Check.same("2: other side still has room", game.putPiece(0, 8, 1), 1);
        Check.refused("2: own square taken", game, Check.STATE, () -> game.putPiece(0, 8, 1));
        Check.refused("2: other's square taken", game, Check.STATE, () -> game.putPiece(0, 3, 1));
        BrackenGambit started = started();
        Check.refused("2: started", started, Check.STATE, () -> started.putPiece(0, 20, 1));
        Check.refused("2: started, steps first", started, Check.ARGUMENT, () -> started.putPiece(0, 20, 0));
    }

    private static void promise3() {
        BrackenGambit game = new BrackenGambit();
        Check.same("3: first", game.putLeader(0, 4, 16), 1);
        Check.same("3: leader", game.leaderOf(0), 4);
        Check.same("3: worth", game.worthAt(4), 13);
        Check.same("3: steps", game.stepsAt(4), 16);
        Check.same("3: other side's", game.putLeader(1, 5, 31), 1);
        Check.same("3: other side's square", game.leaderOf(1), 5);
        Check.same("3: other side's side", game.sideAt(5), 1);
        Check.same("3: with a piece", game.putPiece(1, 6, 2), 2);
        Check.same("3: modifications", game.historySize(), 3);
        game.undo();
        game.undo();
        Check.refused("3: undone", game, Check.NO_ELEMENT, () -> game.leaderOf(1));
    }

    private static void promise3Edges() {
        BrackenGambit game = new BrackenGambit();
        for (int side : NO_SIDES) {
            Check.refused("3: side " + side, game, Check.INDEX, () -> game.putLeader(side, 0, 0));
        }
        for (int square : NO_SQUARES) {
            Check.refused("3: square " + square, game, Check.INDEX, () -> game.putLeader(0, square, 0));
        }
        for (int steps : NO_STEPS) {
            Check.refused("3: steps " + steps, game, Check.ARGUMENT, () -> game.putLeader(1, 35, steps));
        }
        for (int square = 0; square < 7; square++) {
            game.putPiece(0, square, 1);
        }
        Check.refused("3: square taken", game, Check.STATE, () -> game.putLeader(0, 3, 1));
        Check.same("3: the eighth", game.putLeader(0, 35, 1), 8);
        Check.refused("3: steps first", game, Check.ARGUMENT, () -> game.putLeader(0, 34, 0));
        game.takeAway(0);
        Check.refused("3: a second leader", game, Check.STATE, () -> game.putLeader(0, 34, 1));
        game.takeAway(35);
        Check.same("3: a leader again", game.putLeader(0, 34, 1), 7);
        game.takeAway(34);
        game.putPiece(0, 33, 1);
        game.putPiece(0, 34, 1);
        Check.refused("3: 8 pieces without a leader", game, Check.STATE, () -> game.putLeader(0, 35, 1));
        BrackenGambit started = started();
        Check.refused("3: started", started, Check.STATE, () -> started.putLeader(0, 20, 1));
    }

    private static void promise4() {
        BrackenGambit game = new BrackenGambit();
        for (int square : NO_SQUARES) {
            Check.refused("4: square " + square, game, Check.INDEX, () -> game.takeAway(square));
        }
        game.putPiece(0, 0, 12);
        game.putLeader(1, 35, 31);
        Check.refused("4: empty", game, Check.STATE, () -> game.takeAway(1));
        Check.same("4: a piece", game.takeAway(0), 8);
        Check.same("4: its side", game.pieces(0), 0);
        Check.same("4: a leader", game.takeAway(35), 23);
        Check.same("4: its side", game.pieces(1), 0);
        Check.same("4: account", game.worthByAccount(1), 0);
        Check.refused("4: gone", game, Check.STATE, () -> game.takeAway(35));
        Check.same("4: modifications", game.historySize(), 4);
        game.undo();
        Check.same("4: undone", game.leaderOf(1), 35);
        Check.same("4: account undone", game.worthByAccount(1), 23);
        BrackenGambit started = started();
        Check.refused("4: started", started, Check.STATE, () -> started.takeAway(0));
        for (int square : NO_SQUARES) {
            Check.refused("4: started, square " + square, started, Check.INDEX, () -> started.takeAway(square));
        }
    }

    private static void promise5() {
        BrackenGambit game = new BrackenGambit();
        Check.refused("5: no leaders", game, Check.STATE, game::start);
        game.putLeader(1, 35, 1);
        game.putPiece(0, 20, 1);
        Check.refused("5: side 0 without a leader", game, Check.STATE, game::start);
        game.putLeader(0, 7, 1);
        game.takeAway(35);
        Check.refused("5: side 1 without a leader", game, Check.STATE, game::start);
        game.putLeader(1, 35, 3);
        Check.same("5: moves of side 0", game.start(), 8);
        Check.same("5: to move", game.toMove(), 0);
        Check.same("5: the board at the start counts", game.repetitions(), 1);
        Check.same("5: not over", game.isOver(), false);
        Check.same("5: a modification", game.historySize(), 5);
        Check.refused("5: twice", game, Check.STATE, game::start);
        game.undo();
        Check.same("5: undone", game.repetitions(), 0);
        Check.same("5: again", game.start(), 8);
    }

    // A stalled side can not be tested: it would need 18 pieces (see NOTES.md).
    private static void promise5Edges() {
        BrackenGambit game = new BrackenGambit();
        game.putLeader(0, Check.square("a1"), 2);
        game.putPiece(0, Check.square("b2"), 1);
        game.putPiece(0, Check.square("a2"), 16);
        game.putPiece(0, Check.square("b1"), 8);
        game.putLeader(1, Check.square("e1"), 31);
        Check.same("5: a hemmed leader", game.start(), 2 + 4 + 3);
        Check.same("5: not over", game.isOver(), false);
        BrackenGambit hemmed = new BrackenGambit();
        hemmed.putLeader(0, Check.square("a1"), 2);
        hemmed.putPiece(0, Check.square("b2"), 2);
        hemmed.putLeader(1, Check.square("a3"), 1);
        Check.same("5: a piece to capture", hemmed.start(), 3);
        BrackenGambit over = started();
        over.move(0, 1);
        Check.refused("5: later in the game", over, Check.STATE, over::start);
    }

    private static BrackenGambit started() {
        BrackenGambit game = new BrackenGambit();
        game.putLeader(0, 0, 1);
        game.putLeader(1, 35, 1);
        game.start();
        return game;
    }
}
