/** Promises 27 to 31: toMove, isOver, winner, repetitions, movesMade. */
public final class GameTest {
    /** Two squares with the other side's pieces to their right, and how the pieces on them change places. */
    private static final String[] BESIDE = {"c1", "c3", "c1a1", "c3c1", "a1c3"};

    public static void main(String[] args) {
        promise27();
        promises28And29();
        promise30();
        promise30OtherSide();
        promise30ChangedPlaces();
        oneMoveIsEnough();
        promise31();
        Check.finish();
    }

    private static BrackenGambit twoLeaders() {
        BrackenGambit game = new BrackenGambit();
        game.putLeader(0, 0, 1);
        game.putLeader(1, 35, 1);
        return game;
    }

    private static void promise27() {
        BrackenGambit game = twoLeaders();
        Check.same("27: before the start", game.toMove(), 0);
        game.start();
        Check.same("27: at the start", game.toMove(), 0);
        game.move(0, 1);
        Check.same("27: then side 1", game.toMove(), 1);
        game.move(35, 34);
        Check.same("27: then side 0", game.toMove(), 0);
        game.undo();
        game.undo();
        game.undo();
        Check.same("27: undone", game.toMove(), 0);
        BrackenGambit won = new BrackenGambit();
        won.putLeader(0, 0, 1);
        won.putLeader(1, 1, 1);
        won.start();
        won.move(0, 1);
        Check.same("27: after the end", won.toMove(), 1);
    }

    private static void promises28And29() {
        BrackenGambit game = new BrackenGambit();
        game.putLeader(0, 0, 1);
        game.putLeader(1, 7, 1);
        Check.same("28: before the start", game.isOver(), false);
        Check.refused("29: before the start", game, Check.NO_ELEMENT, game::winner);
        game.start();
        game.move(0, 1);
        Check.same("28: in the game", game.isOver(), false);
        Check.refused("29: in the game", game, Check.NO_ELEMENT, game::winner);
        game.move(7, 1);
        Check.same("28: won", game.isOver(), true);
        Check.same("29: side 1", game.winner(), 1);
        game.undo();
        Check.same("28: undone", game.isOver(), false);
        Check.refused("29: undone", game, Check.NO_ELEMENT, game::winner);
        game.move(7, 6);
        Check.same("28: another move instead", game.isOver(), false);
        Check.refused("29: another move instead", game, Check.NO_ELEMENT, game::winner);
        BrackenGambit first = new BrackenGambit();
        first.putLeader(0, 0, 1);
        first.putLeader(1, 6, 1);
        first.start();
        first.move(0, 6);
        Check.same("29: side 0", first.winner(), 0);
        Check.same("28: won by side 0", first.isOver(), true);
    }

    private static void promise30() {
        BrackenGambit game = twoLeaders();
        Check.same("30: before the start", game.repetitions(), 0);
        game.start();
        Check.same("30: the board at the start", game.repetitions(), 1);
        int[][] moves = {{0, 1}, {35, 34}, {1, 0}, {34, 35}, {0, 1}, {35, 34}, {1, 0}, {34, 35}};
        int[] due = {1, 1, 1, 2, 2, 2, 2, 3};
        for (int i = 0; i < moves.length; i++) {
            Check.same("30: not over before move " + i, game.isOver(), false);
            game.move(moves[i][0], moves[i][1]);
            Check.same("30: after move " + i, game.repetitions(), due[i]);
        }
        Check.same("30: a draw", game.isOver(), true);
        Check.refused("30: nobody wins", game, Check.NO_ELEMENT, game::winner);
        Check.same("30: to move", game.toMove(), 0);
        Check.refused("30: nobody can move", game, Check.STATE, () -> game.move(0, 1));
        BrackenGambit won = new BrackenGambit();
        won.putLeader(0, 0, 1);
        won.putLeader(1, 6, 1);
        won.start();
        won.move(0, 6);
        Check.same("30: the board at the end", won.repetitions(), 1);
    }

    private static void promise30OtherSide() {
        BrackenGambit sides = new BrackenGambit();
        sides.putLeader(0, 0, 3);
        sides.putLeader(1, 35, 1);
        sides.start();
        Check.type(sides, "a1a2 f6e6 a2b1 e6f6 b1a1");
        Check.same("30: played", sides.play(), 5);
        Check.same("30: another side to move", sides.repetitions(), 1);
    }

    /** Two pieces change places; whether the board is the same then tells what belongs to a board. */
    private static void promise30ChangedPlaces() {
        String[][] near = {
            {"a1", "b1", "a1a2", "b1a1", "a2b1"},
            {"d2", "e2", "d2d3", "e2d2", "d3e2"},
            {"a4", "b4", "a4a5", "b4a4", "a5b4"},
            {"a6", "b6", "a6a5", "b6a6", "a5b6"},
            {"a1", "d2", "a1a2", "d2d1", "a2d2", "d1a1"},
            {"a4", "d5", "a4a5", "d5d4", "a5d5", "d4a4"}};
        for (String[] way : near) {
            Check.same("30: like pieces on " + way[0], timesAfter(false, 31, 31, way), 2);
            Check.same("30: other steps on " + way[0], timesAfter(false, 31, 15, way), 1);
            Check.same("30: the leader on " + way[0], timesAfter(true, 31, 31, way), 1);
        }
        Check.same("30: beside the other side's", timesAfter(false, 30, 31, BESIDE), 1);
    }

    private static int timesAfter(boolean leads, int steps, int otherSteps, String[] way) {
        BrackenGambit game = new BrackenGambit();
        if (leads) {
            game.putLeader(0, Check.square(way[0]), steps);
        } else {
            game.putPiece(0, Check.square(way[0]), steps);
            game.putLeader(0, Check.square("f1"), 1);
        }
        game.putPiece(0, Check.square(way[1]), otherSteps);
        game.putLeader(1, Check.square("f6"), 3);
        if (way == BESIDE) {
            game.putPiece(1, Check.square("d1"), 1);
            game.putPiece(1, Check.square("d3"), 1);
        }
        game.start();
        String[] answers = way.length == 5
                ? new String[] {"f6e6", "e6f5", "f5f6"} : new String[] {"f6e6", "e6f6", "f6f5", "f5f6"};
        for (int i = 0; i < answers.length; i++) {
            game.move(Check.square(way[2 + i]), Check.square(way[2 + i].substring(2)));
            game.move(Check.square(answers[i]), Check.square(answers[i].substring(2)));
        }
        return game.repetitions();
    }

    private static void oneMoveIsEnough() {
        BrackenGambit game = new BrackenGambit();
        game.putLeader(0, Check.square("a1"), 2);
        game.putLeader(1, Check.square("f6"), 2);
        Check.same("28: one move of side 0", game.start(), 1);
        Check.same("28: is enough", game.isOver(), false);
        game.move(Check.square("a1"), Check.square("b2"));
        Check.same("28: one move of side 1", game.moveCount(1), 1);
        Check.same("28: is enough", game.isOver(), false);
    }

    private static void promise31() {
        BrackenGambit game = twoLeaders();
        Check.same("31: before the start", game.movesMade(), 0);
        game.start();
        Check.same("31: at the start", game.movesMade(), 0);
        game.move(0, 1);
        Check.same("31: one", game.movesMade(), 1);
        Check.outcome(() -> game.move(0, 1));
        Check.same("31: refused ones do not count", game.movesMade(), 1);
        Check.type(game, "f6f5 b1b2 f5f4");
        game.play();
        Check.same("31: played ones count", game.movesMade(), 4);
        game.undo();
        Check.same("31: undone", game.movesMade(), 1);
    }
}
