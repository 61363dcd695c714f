import java.util.ArrayList;
import java.util.List;

/** Promises 13 and 36: undo, historySize. */
public final class HistoryTest {
    public static void main(String[] args) {
        promise13();
        promise13WholeStates();
        promise13Positions();
        promise36();
        Check.finish();
    }

    private static void promise13() {
        BrackenGambit game = new BrackenGambit();
        Check.refused("13: empty", game, Check.STATE, game::undo);
        for (int square = 0; square < 7; square++) {
            game.putPiece(0, square, 1);
        }
        for (int left = 4; left >= 0; left--) {
            Check.same("13: remaining", game.undo(), left);
            Check.same("13: pieces", game.pieces(0), 2 + left);
        }
        Check.refused("13: the oldest are dropped", game, Check.STATE, game::undo);
        Check.same("13: two are left", game.pieces(0), 2);
        game.putPiece(0, 30, 1);
        Check.same("13: after a modification", game.undo(), 0);
        Check.refused("13: undo is none", game, Check.STATE, game::undo);
    }

    /** After each modification the state must come back whole. */
    private static void promise13WholeStates() {
        BrackenGambit game = new BrackenGambit();
        List<String> states = new ArrayList<>();
        List<Runnable> changes = new ArrayList<>();
        changes.add(() -> game.putLeader(0, 0, 9));
        changes.add(() -> game.putLeader(1, 35, 1));
        changes.add(() -> game.putPiece(1, 3, 4));
        changes.add(() -> game.takeAway(3));
        changes.add(() -> game.putPiece(1, 3, 16));
        changes.add(() -> game.putPiece(1, 5, 4));
        changes.add(game::start);
        changes.add(() -> game.move(0, 3));
        changes.add(() -> game.move(35, 34));
        changes.add(game::play);
        changes.add(() -> game.move(3, 4));
        changes.add(() -> game.move(34, 28));
        changes.add(() -> game.move(4, 28));
        Check.type(game, "d1c2 e6f6 c2d1 f6e6");
        for (Runnable change : changes) {
            states.add(Check.stateOf(game));
            change.run();
            String after = Check.stateOf(game);
            game.undo();
            Check.same("13: state " + states.size(), Check.stateOf(game), states.get(states.size() - 1));
            change.run();
            Check.same("13: again " + states.size(), Check.stateOf(game), after);
        }
        Check.same("13: the game is won", game.winner(), 0);
        for (int back = 1; back <= 5; back++) {
            game.undo();
            Check.same("13: back " + back, Check.stateOf(game), states.get(states.size() - back));
        }
    }

    private static void promise13Positions() {
        BrackenGambit game = new BrackenGambit();
        game.putLeader(0, 0, 1);
        game.putLeader(1, 35, 1);
        game.start();
        Check.type(game, "a1b1 f6e6 b1a1 e6f6");
        game.play();
        Check.same("13: twice", game.repetitions(), 2);
        game.undo();
        Check.same("13: once again", game.repetitions(), 1);
        game.play();
        game.undo();
        game.play();
        Check.same("13: undone boards do not count", game.repetitions(), 2);
        game.play();
        Check.same("13: drawn", game.isOver(), true);
        game.undo();
        Check.same("13: no longer drawn", game.isOver(), false);
        Check.same("13: can move on", game.move(0, 6), 0);
    }

    private static void promise36() {
        BrackenGambit game = new BrackenGambit();
        Check.same("36: new", game.historySize(), 0);
        int[] due = {1, 2, 3, 4, 5, 5, 5};
        for (int square = 0; square < 7; square++) {
            game.putPiece(0, square, 1);
            Check.same("36: grows to 5", game.historySize(), due[square]);
        }
        game.undo();
        Check.same("36: one less", game.historySize(), 4);
        Check.outcome(() -> game.putPiece(0, 0, 1));
        Check.outcome(() -> game.putPiece(0, 0, 0));
        Check.outcome(game::start);
        Check.outcome(game::play);
        Check.same("36: exceptions record nothing", game.historySize(), 4);
        game.append('a');
        game.clearText();
        game.isValid();
        game.firstError();
        game.whyNot(0, 1);
        Check.same("36: queries and texts record nothing", game.historySize(), 4);
    }
}
