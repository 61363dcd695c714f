/** Promises 27 to 31: toMove, isOver, winner, repetitions, movesMade. */
public final class GameTest {
    public static void main(String[] args) {
        promise27();
        promises28And29();
        promise30();
        promise30SameBoard();
        promise31();
        Check.finish();
    }

    private static BrackenGambit twoLeaders() {
        BrackenGambit game = new BrackenGambit();
        game.putLeader(0, 0, 1);
        game.putLeader(1, 35, 1);
        return game;
    }

    private static void promise27() {
        BrackenGambit game = twoLeaders();
        Check.same("27: before the start", game.toMove(), 0);
        game.start();
        Check.same("27: at the start", game.toMove(), 0);
        game.move(0, 1);
        Check.same("27: then side 1", game.toMove(), 1);
        game.move(35, 34);
        Check.same("27: then side 0", game.toMove(), 0);
        game.undo();
        game.undo();
        game.undo();
        Check.same("27: undone", game.toMove(), 0);
        BrackenGambit won = new BrackenGambit();
        won.putLeader(0, 0, 1);
        won.putLeader(1, 1, 1);
        won.start();
        won.move(0, 1);
        Check.same("27: after the end", won.toMove(), 1);
    }

    private static void promises28And29() {
        BrackenGambit game = new BrackenGambit();
        game.putLeader(0, 0, 1);
        game.putLeader(1, 7, 1);
        Check.same("28: before the start", game.isOver(), false);
        Check.refused("29: before the start", game, Check.NO_ELEMENT, game::winner);
        game.start();
        game.move(0, 1);
        Check.same("28: in the game", game.isOver(), false);
        Check.refused("29: in the game", game, Check.NO_ELEMENT, game::winner);
        game.move(7, 1);
        Check.same("28: won", game.isOver(), true);
        Check.same("29: side 1", game.winner(), 1);
        game.undo();
        Check.same("28: undone", game.isOver(), false);
        Check.refused("29: undone", game, Check.NO_ELEMENT, game::winner);
        game.move(7, 6);
        Check.same("28: another move instead", game.isOver(), false);
        Check.refused("29: another move instead", game, Check.NO_ELEMENT, game::winner);
        BrackenGambit first = new BrackenGambit();
        first.putLeader(0, 0, 1);
        first.putLeader(1, 6, 1);
        first.start();
        first.move(0, 6);
        Check.same("29: side 0", first.winner(), 0);
        Check.same("28: won by side 0", first.isOver(), true);
    }

    private static void promise30() {
        BrackenGambit game = twoLeaders();
        Check.same("30: before the start", game.repetitions(), 0);
        game.start();
        Check.same("30: the board at the start", game.repetitions(), 1);
        int[][] moves = {{0, 1}, {35, 34}, {1, 0}, {34, 35}, {0, 1}, {35, 34}, {1, 0}, {34, 35}};
        int[] due = {1, 1, 1, 2, 2, 2, 2, 3};
        for (int i = 0; i < moves.length; i++) {
            Check.same("30: not over before move " + i, game.isOver(), false);
            game.move(moves[i][0], moves[i][1]);
            Check.same("30: after move " + i, game.repetitions(), due[i]);
        }
        Check.same("30: a draw", game.isOver(), true);
        Check.refused("30: nobody wins", game, Check.NO_ELEMENT, game::winner);
        Check.same("30: to move", game.toMove(), 0);
        Check.refused("30: nobody can move", game, Check.STATE, () -> game.move(0, 1));
        BrackenGambit won = new BrackenGambit();
        won.putLeader(0, 0, 1);
        won.putLeader(1, 6, 1);
        won.start();
        won.move(0, 6);
        Check.same("30: the board at the end", won.repetitions(), 1);
    }

    /** What makes boards differ: the side to move, the steps, the leader. */
    private static void promise30SameBoard() {
        BrackenGambit sides = new BrackenGambit();
        sides.putLeader(0, 0, 3);
        sides.putLeader(1, 35, 1);
        sides.start();
        Check.type(sides, "a1a2 f6e6 a2b1 e6f6 b1a1");
        Check.same("30: played", sides.play(), 5);
        Check.same("30: another side to move", sides.repetitions(), 1);

        BrackenGambit swapped = new BrackenGambit();
        swapped.putPiece(0, Check.square("a1"), 1);
        swapped.putPiece(0, Check.square("b1"), 1);
        swapped.putLeader(0, Check.square("a6"), 1);
        swapped.putLeader(1, Check.square("f6"), 1);
        swapped.start();
        Check.type(swapped, "a1a2 f6e6 b1a1 e6f6 a2b2 f6e6 b2b1 e6f6");
        Check.same("30: swapped", swapped.play(), 8);
        Check.same("30: like pieces in each other's place", swapped.repetitions(), 2);

        BrackenGambit leaders = new BrackenGambit();
        leaders.putLeader(0, Check.square("a1"), 1);
        leaders.putPiece(0, Check.square("b1"), 1);
        leaders.putLeader(1, Check.square("f6"), 1);
        leaders.start();
        Check.type(leaders, "a1a2 f6e6 b1a1 e6f6 a2b2 f6e6 b2b1 e6f6");
        Check.same("30: leader swapped", leaders.play(), 8);
        Check.same("30: a leader in another's place", leaders.repetitions(), 1);

        BrackenGambit steps = new BrackenGambit();
        steps.putPiece(0, Check.square("a1"), 1);
        steps.putPiece(0, Check.square("b1"), 3);
        steps.putLeader(0, Check.square("a6"), 1);
        steps.putLeader(1, Check.square("f6"), 1);
        steps.start();
        Check.type(steps, "a1a2 f6e6 b1a1 e6f6 a2b2 f6e6 b2b1 e6f6");
        Check.same("30: steps swapped", steps.play(), 8);
        Check.same("30: other steps", steps.repetitions(), 1);
    }

    private static void promise31() {
        BrackenGambit game = twoLeaders();
        Check.same("31: before the start", game.movesMade(), 0);
        game.start();
        Check.same("31: at the start", game.movesMade(), 0);
        game.move(0, 1);
        Check.same("31: one", game.movesMade(), 1);
        Check.outcome(() -> game.move(0, 1));
        Check.same("31: refused ones do not count", game.movesMade(), 1);
        Check.type(game, "f6f5 b1b2 f5f4");
        game.play();
        Check.same("31: played ones count", game.movesMade(), 4);
        game.undo();
        Check.same("31: undone", game.movesMade(), 1);
    }
}
