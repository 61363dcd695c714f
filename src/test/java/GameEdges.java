/** The edges that the promises 27 to 31 name: toMove, isOver, winner, repetitions, movesMade. */
final class GameEdges extends Edges {
    static void run() {
        section("Promise 27");
        toMove();
        section("Promise 28");
        isOver();
        section("Promise 29");
        winner();
        section("Promise 30");
        repetitions();
        section("Promise 31");
        movesMade();
    }

    private static void toMove() {
        edge("Returns the side to move.", "after each move", () -> {
            BrackenGambit game = leaders();
            moves(game, "a1b1");
            same("after one", game.toMove(), 1);
            moves(game, "f6e6");
            same("after two", game.toMove(), 0);
            game.undo();
            same("undone", game.toMove(), 1);
        });
        String sentence = "Returns 0 or 1; 0 before the start; after the end the side that would be to move.";
        edge(sentence, "before the start", () -> {
            same("a new object", new BrackenGambit().toMove(), 0);
            same("with side 1 alone", board("1La1:0").toMove(), 0);
            BrackenGambit game = leaders();
            moves(game, "a1b1");
            game.undo();
            game.undo();
            same("the start undone", game.toMove(), 0);
        });
        edge(sentence, "at the start", () -> same("side 0", leaders().toMove(), 0));
        edge(sentence, "after a win of each side", () -> {
            same("side 0 has won", wonByCapture().toMove(), 1);
            BrackenGambit other = started("0La1:0 0Pf1:0 1La2:0");
            moves(other, "f1e1 a2a1");
            same("side 1 has won", other.toMove(), 0);
        });
        edge(sentence, "after a draw", () -> {
            same("side 0", drawnByRepetition().toMove(), 0);
            BrackenGambit game = leaders();
            moves(game, "a1a2 f6e6 a2b2 e6f6 b2a2 f6e6 a2b2 e6f6 b2a2");
            same("over", game.isOver(), true);
            same("side 1", game.toMove(), 1);
        });
    }

    private static void isOver() {
        String sentence = "Tells whether the game is over.";
        edge(sentence, "before the start and after it", () -> {
            same("a new object", new BrackenGambit().isOver(), false);
            same("before", board("0La1:0 1Lf6:0").isOver(), false);
            same("after", leaders().isOver(), false);
        });
        edge(sentence, "one move before a win", () -> {
            BrackenGambit game = started("0La1:0 1La3:0 0Pf1:0");
            moves(game, "f1f2 a3a2");
            same("not yet", game.isOver(), false);
            moves(game, "a1a2");
            same("over", game.isOver(), true);
        });
        edge("Returns true if it is.", "won, drawn and undone", () -> {
            BrackenGambit won = wonByCapture();
            same("won", won.isOver(), true);
            won.undo();
            same("the win undone", won.isOver(), false);
            BrackenGambit drawn = drawnByRepetition();
            same("drawn", drawn.isOver(), true);
            drawn.undo();
            same("the draw undone", drawn.isOver(), false);
        });
    }

    private static void winner() {
        edge("Returns the side that has won.", "a leader that captures a leader", () -> {
            BrackenGambit game = started("0La1:0 0Pf1:0 1La2:0");
            moves(game, "f1e1 a2a1");
            same("the capturing side", game.winner(), 1);
        });
        edge("Returns 0 or 1.", "each side, by a piece", () -> {
            BrackenGambit first = started("0La1:0 0Pf1:3 1Lf6:0");
            moves(first, "f1f6");
            same("side 0", first.winner(), 0);
            BrackenGambit second = started("0La1:0 1Pa6:3 1Lf6:0");
            moves(second, "a1a2 a6a2");
            same("side 1", second.winner(), 1);
        });
        String nobody = "Throws `NoSuchElementException` if nobody has won";
        edge(nobody, "before the start and in the game", () -> {
            BrackenGambit fresh = new BrackenGambit();
            refused("a new object", fresh, Check.NO_ELEMENT, fresh::winner);
            BrackenGambit game = started("0La1:0 1Lf6:0 1Pb1:0");
            refused("started", game, Check.NO_ELEMENT, game::winner);
            moves(game, "a1b1");
            refused("after a capture", game, Check.NO_ELEMENT, game::winner);
        });
        edge(nobody, "a draw", () -> {
            BrackenGambit game = drawnByRepetition();
            refused("drawn", game, Check.NO_ELEMENT, game::winner);
        });
        edge(nobody, "a win undone", () -> {
            BrackenGambit game = wonByCapture();
            game.undo();
            refused("undone", game, Check.NO_ELEMENT, game::winner);
        });
    }

    private static void repetitions() {
        String sentence = "Returns how often the present board has come up in the game.";
        edge(sentence, "the present board alone", () -> {
            BrackenGambit game = leaders();
            moves(game, "a1b1 f6e6 b1a1 e6f6");
            same("the second time", game.repetitions(), 2);
            moves(game, "a1a2");
            same("a new one after it", game.repetitions(), 1);
            moves(game, "f6e6");
            same("and another", game.repetitions(), 1);
        });
        edge(sentence, "after a leader was captured", () -> {
            same("the last board counts as well", wonByCapture().repetitions(), 1);
            BrackenGambit game = started("0La1:0 1Lc1:0 0Pf6:0");
            moves(game, "f6f5 c1b1 f5f6 b1c1 f6f5 c1b1");
            same("the board before it twice", game.repetitions(), 2);
            moves(game, "a1b1");
            same("the last board once", game.repetitions(), 1);
        });
        String number = "Returns the number, 0 before the start.";
        edge(number, "before the start", () -> {
            same("a new object", new BrackenGambit().repetitions(), 0);
            BrackenGambit game = board("0La1:0 1Lf6:0");
            same("with leaders", game.repetitions(), 0);
            game.start();
            same("at the start", game.repetitions(), 1);
            game.undo();
            same("the start undone", game.repetitions(), 0);
        });
        edge(number, "the third time", () -> same("three", drawnByRepetition().repetitions(), 3));
        edge(number, "a game started again after undo", () -> {
            BrackenGambit game = leaders();
            moves(game, "a1b1 f6e6");
            game.undo();
            game.undo();
            game.undo();
            game.start();
            same("counted anew", game.repetitions(), 1);
        });
    }

    private static void movesMade() {
        String sentence = "Returns the number of moves that were made in the game.";
        edge(sentence, "moves of both sides, by move and by play", () -> {
            BrackenGambit game = leaders();
            moves(game, "a1b1");
            same("one", game.movesMade(), 1);
            moves(game, "f6e6");
            same("two", game.movesMade(), 2);
            Check.type(game, "b1b2 e6e5 b2b5");
            game.play();
            same("four", game.movesMade(), 4);
        });
        edge(sentence, "the last move", () -> {
            same("a win", wonByCapture().movesMade(), 1);
            same("a draw", drawnByRepetition().movesMade(), 8);
        });
        edge("Returns the number.", "no move", () -> {
            same("a new object", new BrackenGambit().movesMade(), 0);
            BrackenGambit game = leaders();
            same("at the start", game.movesMade(), 0);
            refused("an impossible one", game, Check.STATE, () -> game.move(0, 2));
            Check.type(game, "a1c1");
            game.play();
            same("none is made", game.movesMade(), 0);
        });
        edge("Returns the number.", "undone moves", () -> {
            BrackenGambit game = leaders();
            moves(game, "a1b1 f6e6");
            game.undo();
            same("one is left", game.movesMade(), 1);
            game.undo();
            same("none is left", game.movesMade(), 0);
        });
    }
}
