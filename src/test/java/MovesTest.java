/** Promises 6 to 8: move, play, whyNot. */
public final class MovesTest {
    private static final int[] NO_SQUARES = {-1, 36, Integer.MAX_VALUE, Integer.MIN_VALUE};

    public static void main(String[] args) {
        promise6();
        promise6Captures();
        promise6Leaders();
        promise6Refused();
        promise7();
        promise7Partly();
        promise7Refused();
        promise7LongGame();
        promise8();
        promise8AfterTheEnd();
        promise8Kinds();
        Check.finish();
    }

    private static int at(String name) {
        return Check.square(name);
    }

    private static BrackenGambit twoLeaders() {
        BrackenGambit game = new BrackenGambit();
        game.putLeader(0, at("a1"), 1);
        game.putLeader(1, at("f6"), 1);
        game.start();
        return game;
    }

    private static void promise6() {
        BrackenGambit game = twoLeaders();
        Check.same("6: to an empty square", game.move(at("a1"), at("b1")), 0);
        Check.same("6: arrived", game.leaderOf(0), at("b1"));
        Check.refused("6: left", game, Check.NO_ELEMENT, () -> game.sideAt(at("a1")));
        Check.same("6: in turn", game.toMove(), 1);
        Check.same("6: counted", game.movesMade(), 1);
        Check.same("6: a new board", game.repetitions(), 1);
        Check.same("6: a modification", game.historySize(), 4);
        Check.same("6: the other side", game.move(at("f6"), at("f5")), 0);
        Check.same("6: in turn again", game.toMove(), 0);
        game.undo();
        Check.same("6: undone", game.leaderOf(1), at("f6"));
        Check.same("6: undone turn", game.toMove(), 1);
    }

    private static void promise6Captures() {
        BrackenGambit game = new BrackenGambit();
        game.putLeader(0, at("a1"), 1);
        game.putLeader(1, at("f6"), 1);
        game.putPiece(0, at("c1"), 8 + 1);
        game.putPiece(1, at("c5"), 16 + 1);
        game.putPiece(1, at("e3"), 2);
        game.start();
        Check.same("6: worth of the captured", game.move(at("c1"), at("c5")), 4);
        Check.same("6: steps learnt once", game.stepsAt(at("c5")), 8 + 16 + 1);
        Check.same("6: now on its side", game.sideAt(at("c5")), 0);
        Check.same("6: the captured is gone", game.pieces(1), 2);
        Check.same("6: captured by", game.captured(0), 4);
        Check.same("6: captured from", game.captured(1), 0);
        game.move(at("f6"), at("e6"));
        Check.same("6: by what it has learnt", game.move(at("c5"), at("e3")), 1);
        Check.same("6: learnt again", game.stepsAt(at("e3")), 8 + 16 + 1 + 2);
        Check.same("6: sum of captured", game.captured(0), 5);
        Check.same("6: worth as learnt", game.worthAt(at("e3")), 10);
        Check.same("6: goes on", game.isOver(), false);
    }

    private static void promise6Leaders() {
        BrackenGambit game = new BrackenGambit();
        game.putLeader(0, at("a1"), 8);
        game.putLeader(1, at("a6"), 17);
        game.putPiece(1, at("f6"), 1);
        game.start();
        Check.same("6: a leader captured", game.move(at("a1"), at("a6")), 14);
        Check.same("6: over", game.isOver(), true);
        Check.same("6: won", game.winner(), 0);
        Check.same("6: the side that would be to move", game.toMove(), 1);
        Check.same("6: a leader learns, but leads once", game.worthAt(at("a6")), 10 + 5 + 1 + 3);
        Check.refused("6: no leader left", game, Check.NO_ELEMENT, () -> game.leaderOf(1));
        Check.refused("6: over", game, Check.STATE, () -> game.move(at("f6"), at("f5")));
        BrackenGambit other = new BrackenGambit();
        other.putLeader(0, at("a1"), 1);
        other.putLeader(1, at("f6"), 1);
        other.putPiece(1, at("c1"), 8);
        other.start();
        other.move(at("a1"), at("a2"));
        other.move(at("f6"), at("f5"));
        other.move(at("a2"), at("a1"));
        Check.same("6: not over yet", other.isOver(), false);
        Check.same("6: side 1 captures the leader", other.move(at("c1"), at("a1")), 11);
        Check.same("6: side 1 has won", other.winner(), 1);
        Check.same("6: side 0 would be to move", other.toMove(), 0);
        Check.same("6: the capturing piece does not lead", other.leaderOf(1), at("f5"));
        Check.same("6: it has learnt", other.worthAt(at("a1")), 6);
    }

    private static void promise6Refused() {
        BrackenGambit fresh = new BrackenGambit();
        fresh.putLeader(0, at("a1"), 1);
        Check.refused("6: not started", fresh, Check.STATE, () -> fresh.move(at("a1"), at("b1")));
        BrackenGambit game = twoLeaders();
        for (int square : NO_SQUARES) {
            Check.refused("6: from " + square, game, Check.INDEX, () -> game.move(square, 0));
            Check.refused("6: to " + square, game, Check.INDEX, () -> game.move(0, square));
            Check.refused("6: before the start", fresh, Check.INDEX, () -> fresh.move(0, square));
        }
        Check.refused("6: empty square", game, Check.STATE, () -> game.move(at("b1"), at("c1")));
        Check.refused("6: the other side's", game, Check.STATE, () -> game.move(at("f6"), at("f5")));
        Check.refused("6: staying", game, Check.STATE, () -> game.move(at("a1"), at("a1")));
        Check.refused("6: no step", game, Check.STATE, () -> game.move(at("a1"), at("b2")));
    }

    private static void promise7() {
        BrackenGambit game = twoLeaders();
        Check.type(game, "a1b1 f6e6 b1b2");
        Check.same("7: all moves", game.play(), 3);
        Check.same("7: arrived", game.leaderOf(0), at("b2"));
        Check.same("7: the other side too", game.leaderOf(1), at("e6"));
        Check.same("7: to move", game.toMove(), 1);
        Check.same("7: counted", game.movesMade(), 3);
        Check.same("7: one modification", game.historySize(), 4);
        Check.same("7: the buffer is not changed", game.append(' '), 15);
        game.undo();
        Check.same("7: undone at once", game.movesMade(), 0);
        Check.same("7: undone leader", game.leaderOf(0), at("a1"));
        Check.same("7: undo leaves the buffer", game.clearText(), 15);
    }

    private static void promise7Partly() {
        BrackenGambit game = twoLeaders();
        Check.type(game, "a1b1 f6e6 b1c2 e6e5");
        Check.same("7: up to the first impossible one", game.play(), 2);
        Check.same("7: the rest is not made", game.leaderOf(1), at("e6"));
        Check.retype(game, "f1f2");
        String before = Check.stateOf(game);
        Check.same("7: none", game.play(), 0);
        Check.same("7: none is a modification", game.historySize(), 5);
        Check.same("7: none changes nothing", Check.stateOf(game), before);
        Check.same("7: undone", game.undo(), 4);
        Check.same("7: undone to the same", Check.stateOf(game), before);
        BrackenGambit fresh = new BrackenGambit();
        Check.type(fresh, "a1b1");
        Check.same("7: before the start", fresh.play(), 0);
        Check.same("7: before the start, a modification", fresh.historySize(), 1);
        BrackenGambit won = new BrackenGambit();
        won.putLeader(0, at("a1"), 1);
        won.putLeader(1, at("b1"), 1);
        won.putPiece(1, at("f6"), 1);
        won.start();
        Check.type(won, "a1b1 f6f5");
        Check.same("7: up to the end", won.play(), 1);
        Check.same("7: won", won.winner(), 0);
    }

    private static void promise7Refused() {
        BrackenGambit game = twoLeaders();
        Check.refused("7: empty", game, Check.ARGUMENT, game::play);
        String[] texts = {"a", "a1", "a1b", "a1a1", "a1b1 ", "a1b1 f6", "a1b1f6e6", " a1b1", "A1b1", "a0b1", "g1f1",
            "a1b1 f6f6", "a1b1  f6e6", "a1b7"};
        for (String text : texts) {
            Check.retype(game, text);
            Check.refused("7: " + text, game, Check.ARGUMENT, game::play);
        }
    }

    private static void promise7LongGame() {
        BrackenGambit game = new BrackenGambit();
        game.putLeader(0, at("a1"), 1);
        game.putLeader(1, at("f6"), 1);
        game.putPiece(0, at("a3"), 1);
        game.putPiece(1, at("f4"), 1);
        game.start();
        Check.type(game, "a1b1 f6e6 b1c1 e6d6 c1d1 d6c6 d1e1 c6b6 e1f1 b6a6 f1f2 a6a5");
        Check.same("7: twelve moves", game.play(), 12);
        Check.same("7: twelve counted", game.movesMade(), 12);
        Check.same("7: again from there", game.play(), 0);
        Check.same("7: full to 59", game.append(' '), 60);
    }

    private static void promise8() {
        BrackenGambit game = new BrackenGambit();
        game.putLeader(0, at("a1"), 1);
        game.putLeader(1, at("f6"), 1);
        game.putPiece(0, at("a2"), 8);
        game.putPiece(1, at("a5"), 1);
        Check.same("8: not started", game.whyNot(at("a1"), at("b1")), 1);
        game.start();
        Check.same("8: possible", game.whyNot(at("a1"), at("b1")), 0);
        Check.same("8: a capture", game.whyNot(at("a2"), at("a5")), 0);
        Check.same("8: behind the captured", game.whyNot(at("a2"), at("a6")), 4);
        Check.same("8: empty first square", game.whyNot(at("c3"), at("c4")), 2);
        Check.same("8: the other side's", game.whyNot(at("f6"), at("f5")), 2);
        Check.same("8: 2 before 3", game.whyNot(at("f6"), at("a1")), 2);
        Check.same("8: own piece", game.whyNot(at("a1"), at("a2")), 3);
        Check.same("8: 3 before 4", game.whyNot(at("a2"), at("a1")), 3);
        Check.same("8: own piece out of reach", game.whyNot(at("a1"), at("a1")), 3);
        Check.same("8: no step", game.whyNot(at("a1"), at("c1")), 4);
        Check.same("8: no modification", game.historySize(), 5);
        for (int square : NO_SQUARES) {
            Check.refused("8: from " + square, game, Check.INDEX, () -> game.whyNot(square, 0));
            Check.refused("8: to " + square, game, Check.INDEX, () -> game.whyNot(0, square));
        }
        game.move(at("a1"), at("b1"));
        Check.same("8: the other side's turn", game.whyNot(at("b1"), at("a1")), 2);
        Check.same("8: its own turn", game.whyNot(at("f6"), at("f5")), 0);
    }

    private static void promise8AfterTheEnd() {
        BrackenGambit game = new BrackenGambit();
        game.putLeader(0, at("a1"), 1);
        game.putLeader(1, at("a2"), 1);
        game.putPiece(1, at("f6"), 1);
        game.start();
        game.move(at("a1"), at("a2"));
        Check.same("8: after the end", game.whyNot(at("f6"), at("f5")), 1);
        Check.same("8: 1 before 2", game.whyNot(at("c3"), at("c4")), 1);
        Check.refused("8: squares first", game, Check.INDEX, () -> game.whyNot(at("c3"), 36));
    }

    private static void promise8Kinds() {
        int[] kinds = {1, 2, 4, 8, 16};
        String[][] targets = {
            {"c4", "c2", "b3", "d3"},
            {"b2", "b4", "d2", "d4"},
            {"a2", "a4", "b1", "b5", "d1", "d5", "e2", "e4"},
            {"c1", "c2", "c4", "c5", "c6", "a3", "b3", "d3", "e3", "f3"},
            {"a1", "b2", "d4", "e5", "f6", "a5", "b4", "d2", "e1"}};
        for (int i = 0; i < kinds.length; i++) {
            BrackenGambit game = new BrackenGambit();
            game.putLeader(0, at("c3"), kinds[i]);
            game.putLeader(1, at("f5"), 1);
            game.start();
            long open = Check.squares(targets[i]);
            for (int to = 0; to < 36; to++) {
                int due = to == at("c3") ? 3 : (open >> to & 1L) != 0 ? 0 : 4;
                Check.same("8: kind " + i + " to " + to, game.whyNot(at("c3"), to), due);
            }
        }
    }
}
