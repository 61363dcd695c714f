/** Promises 32 to 35: worth, worthByAccount, captured, worthShare. */
public final class TotalsTest {
    private static final int[] NO_SIDES = {-1, 2, Integer.MAX_VALUE, Integer.MIN_VALUE};

    public static void main(String[] args) {
        beforeTheGame();
        inTheGame();
        promise35();
        wrongArguments();
        Check.finish();
    }

    private static void worths(String when, BrackenGambit game, int side0, int side1) {
        Check.same("32: " + when + ", side 0", game.worth(0), side0);
        Check.same("32: " + when + ", side 1", game.worth(1), side1);
        Check.same("33: " + when + ", side 0", game.worthByAccount(0), side0);
        Check.same("33: " + when + ", side 1", game.worthByAccount(1), side1);
    }

    private static void captures(String when, BrackenGambit game, int side0, int side1) {
        Check.same("34: " + when + ", side 0", game.captured(0), side0);
        Check.same("34: " + when + ", side 1", game.captured(1), side1);
    }

    private static void beforeTheGame() {
        BrackenGambit game = new BrackenGambit();
        worths("new", game, 0, 0);
        game.putPiece(0, 0, 31);
        worths("a piece", game, 13, 0);
        game.putLeader(1, 1, 2);
        worths("a leader", game, 13, 11);
        game.putPiece(1, 2, 12);
        worths("another", game, 13, 19);
        game.takeAway(1);
        worths("taken away", game, 13, 8);
        captures("what is taken away is not captured", game, 0, 0);
        game.undo();
        worths("undone", game, 13, 19);
    }

    private static void inTheGame() {
        BrackenGambit game = new BrackenGambit();
        game.putLeader(0, 0, 9);
        game.putLeader(1, 35, 1);
        game.putPiece(1, 30, 13);
        game.start();
        game.move(0, 30);
        worths("three kinds captured, one learnt", game, 19, 11);
        captures("a piece captured", game, 9, 0);
        game.move(35, 34);
        game.move(30, 34);
        worths("the leader captured", game, 19, 0);
        captures("both", game, 20, 0);
        game.undo();
        captures("undone", game, 9, 0);
        worths("undone capture", game, 19, 11);
        BrackenGambit other = new BrackenGambit();
        other.putLeader(0, 0, 1);
        other.putLeader(1, 35, 1);
        other.putPiece(0, 5, 2);
        other.putPiece(1, 11, 1);
        other.start();
        other.move(0, 1);
        other.move(11, 5);
        worths("side 1 captures", other, 11, 13);
        captures("side 1 captures", other, 0, 1);
    }

    private static void promise35() {
        BrackenGambit game = new BrackenGambit();
        Check.same("35: without pieces", game.worthShare(0), 0.0);
        Check.same("35: without pieces", game.worthShare(1), 0.0);
        game.putPiece(1, 0, 1);
        Check.same("35: none of its own", game.worthShare(0), 0.0);
        Check.same("35: all", game.worthShare(1), 1.0);
        game.putPiece(0, 1, 3);
        Check.same("35: two of three", game.worthShare(0), 2.0 / 3.0);
        Check.same("35: one of three", game.worthShare(1), 1.0 / 3.0);
        game.putLeader(0, 2, 8);
        Check.same("35: with a leader", game.worthShare(0), 17.0 / 18.0);
        game.takeAway(0);
        game.takeAway(1);
        game.takeAway(2);
        Check.same("35: empty again", game.worthShare(0), 0.0);
    }

    private static void wrongArguments() {
        BrackenGambit game = new BrackenGambit();
        for (int side : NO_SIDES) {
            Check.refused("32: side " + side, game, Check.INDEX, () -> game.worth(side));
            Check.refused("33: side " + side, game, Check.INDEX, () -> game.worthByAccount(side));
            Check.refused("34: side " + side, game, Check.INDEX, () -> game.captured(side));
            Check.refused("35: side " + side, game, Check.INDEX, () -> game.worthShare(side));
        }
    }
}
