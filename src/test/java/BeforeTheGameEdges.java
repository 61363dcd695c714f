/** The edges that the promises 1 to 5 name: a new object, putPiece, putLeader, takeAway, start. */
final class BeforeTheGameEdges extends Edges {
    private static final String AFTERWARDS = "Returns the number of pieces of the side afterwards.";
    private static final String MODIFICATION = "This is a modification.";
    private static final String NO_SUCH = "Throws `IndexOutOfBoundsException` if there is no such side or square";
    private static final String OUT_OF_RANGE = "Throws `IllegalArgumentException` if steps is out of range";

    /** putPiece or putLeader, of which the document says much the same. */
    private interface Putting {
        int put(BrackenGambit game, int side, int square, int steps);
    }

    static void run() {
        section("Promise 1");
        newObject();
        section("Promise 2");
        putting(BrackenGambit::putPiece, 0);
        putPiece();
        section("Promise 3");
        putting(BrackenGambit::putLeader, 10);
        putLeader();
        section("Promise 4");
        takeAway();
        section("Promise 5");
        start();
        refusedStarts();
    }

    private static void newObject() {
        String sentence = "Creates an empty board before the game.";
        edge(sentence, "empty", () -> {
            BrackenGambit game = new BrackenGambit();
            for (int square = 0; square < 36; square++) {
                int on = square;
                refused("no piece on " + on, game, Check.NO_ELEMENT, () -> game.sideAt(on));
            }
            same("no pieces", game.pieces(0) + game.pieces(1), 0);
            same("no worths", game.worthByAccount(0) + game.worthByAccount(1), 0);
            same("nothing captured", game.captured(0) + game.captured(1), 0);
        });
        edge(sentence, "before the game", () -> {
            BrackenGambit game = new BrackenGambit();
            same("not started", game.whyNot(0, 1), 1);
            same("not over", game.isOver(), false);
            same("side 0", game.toMove(), 0);
            same("no board has come up", game.repetitions(), 0);
            same("no moves", game.movesMade(), 0);
            same("no history", game.historySize(), 0);
            same("no text", game.clearText(), 0);
            same("pieces can be put", game.putPiece(0, 0, 1), 1);
        });
    }

    private static void putting(Putting to, int more) {
        edge("- `side`: 0 or 1", "each side", () -> {
            for (int side = 0; side < 2; side++) {
                BrackenGambit game = new BrackenGambit();
                to.put(game, side, 3, 1);
                same("side " + side, game.sideAt(3), side);
            }
        });
        edge("- `square`: 0 to 35", "each square", () -> {
            for (int square = 0; square < 36; square++) {
                BrackenGambit game = new BrackenGambit();
                same("on " + square, to.put(game, 1, square, 1), 1);
                same("there", game.sideAt(square), 1);
            }
        });
        edge("- `steps`: 1 to 31", "each set of steps", () -> {
            for (int steps = 1; steps < 32; steps++) {
                BrackenGambit game = new BrackenGambit();
                to.put(game, 0, 3, steps);
                same("steps " + steps, game.stepsAt(3), steps);
            }
        });
        edge(MODIFICATION, "recorded and undone", () -> {
            BrackenGambit game = new BrackenGambit();
            to.put(game, 0, 3, 31);
            same("recorded", game.historySize(), 1);
            same("put", game.worth(0), 13 + more);
            game.undo();
            same("undone", Check.lookAt(game), Check.lookAt(new BrackenGambit()));
        });
        edge(AFTERWARDS, "the first piece and the eighth", () -> {
            BrackenGambit game = piecesOf(1, 7);
            same("the first of side 0", to.put(game, 0, 20, 1), 1);
            same("the eighth of side 1", to.put(game, 1, 21, 1), 8);
        });
        puttingRefused(to);
    }

    private static void puttingRefused(Putting to) {
        edge(NO_SUCH, "no such side", () -> {
            BrackenGambit game = new BrackenGambit();
            for (int side : NO_SIDES) {
                refused("side " + side, game, Check.INDEX, () -> to.put(game, side, 0, 1));
            }
        });
        edge(NO_SUCH, "no such square", () -> {
            BrackenGambit game = new BrackenGambit();
            for (int square : NO_SQUARES) {
                refused("square " + square, game, Check.INDEX, () -> to.put(game, 0, square, 1));
            }
        });
        edge(OUT_OF_RANGE, "no such steps", () -> {
            BrackenGambit game = new BrackenGambit();
            for (int steps : NO_STEPS) {
                refused("steps " + steps, game, Check.ARGUMENT, () -> to.put(game, 0, 0, steps));
            }
        });
        String state = "Throws `IllegalStateException` if the game is started, the square is not empty, "
                + "or the side has 8 pieces";
        edge(state, "the game is started", () -> {
            BrackenGambit game = leaders();
            refused("in the game", game, Check.STATE, () -> to.put(game, 0, 20, 1));
            BrackenGambit over = wonByCapture();
            refused("after the end, without a leader", over, Check.STATE, () -> to.put(over, 1, 20, 1));
        });
        edge(state, "the square is not empty", () -> {
            BrackenGambit game = board("0Pa1:0 1Pf6:0");
            refused("an own piece", game, Check.STATE, () -> to.put(game, 0, 0, 1));
            refused("the other side's", game, Check.STATE, () -> to.put(game, 0, 35, 1));
            game.takeAway(35);
            same("taken away", to.put(game, 0, 35, 1), 2);
        });
        edge(state, "the side has 8 pieces", () -> {
            BrackenGambit game = piecesOf(0, 8);
            refused("a ninth", game, Check.STATE, () -> to.put(game, 0, 20, 1));
            same("the other side has none", to.put(game, 1, 20, 1), 1);
            game.takeAway(0);
            same("an eighth again", to.put(game, 0, 0, 1), 8);
        });
    }

    private static void putPiece() {
        edge("Puts a piece that is no leader onto an empty square.", "no leader", () -> {
            BrackenGambit game = board("0Pa1:01234");
            refused("no leader", game, Check.NO_ELEMENT, () -> game.leaderOf(0));
            same("no leader's worth", game.worthAt(0), 13);
            same("beside a leader", board("0La1:0 0Pb1:0").leaderOf(0), 0);
        });
    }

    private static void putLeader() {
        edge("Puts a leader onto an empty square.", "a leader", () -> {
            BrackenGambit game = board("0Pa1:0 0Lb1:01234");
            same("the leader", game.leaderOf(0), 1);
            same("a leader's worth", game.worthAt(1), 23);
        });
        edge("the side has 8 pieces or a leader", "the side has a leader", () -> {
            BrackenGambit game = board("0La1:0");
            refused("a second one", game, Check.STATE, () -> game.putLeader(0, 1, 1));
            same("the other side has none", game.putLeader(1, 1, 1), 1);
            game.takeAway(0);
            same("taken away", game.putLeader(0, 2, 1), 1);
        });
    }

    private static void takeAway() {
        edge("Takes a piece away.", "the last piece, and one of several", () -> {
            BrackenGambit game = board("0Pa1:0 0Pb1:0");
            game.takeAway(1);
            same("one of two", game.pieces(0), 1);
            game.takeAway(0);
            same("the last", game.pieces(0), 0);
            refused("it is gone", game, Check.NO_ELEMENT, () -> game.sideAt(0));
        });
        edge(MODIFICATION, "recorded and undone", () -> {
            BrackenGambit game = board("0La1:01234");
            String before = Check.stateOf(game);
            game.takeAway(0);
            same("recorded", game.historySize(), 2);
            game.undo();
            same("undone", Check.stateOf(game), before);
        });
        edge("- `square`: 0 to 35", "each square", () -> {
            for (int square = 0; square < 36; square++) {
                BrackenGambit game = new BrackenGambit();
                game.putPiece(1, square, 8);
                same("from " + square, game.takeAway(square), 5);
            }
        });
        edge("Returns its worth.", "the least and the greatest worth", () -> {
            BrackenGambit game = board("0Pa1:0 1Lb1:01234");
            same("least", game.takeAway(0), 1);
            same("greatest", game.takeAway(1), 23);
        });
        edge("Throws `IndexOutOfBoundsException` if there is no such square", "no such square", () -> {
            BrackenGambit game = board("0Pa1:0 1Pf6:0");
            for (int square : NO_SQUARES) {
                refused("square " + square, game, Check.INDEX, () -> game.takeAway(square));
            }
        });
        String state = "Throws `IllegalStateException` if the game is started, or the square is empty";
        edge(state, "the game is started", () -> {
            BrackenGambit game = leaders();
            refused("in the game", game, Check.STATE, () -> game.takeAway(0));
            BrackenGambit over = wonByCapture();
            refused("after the end", over, Check.STATE, () -> over.takeAway(at("f6")));
        });
        edge(state, "the square is empty", () -> {
            BrackenGambit game = board("0Pb1:0");
            refused("a new object's", new BrackenGambit(), Check.STATE, () -> new BrackenGambit().takeAway(0));
            refused("beside a piece", game, Check.STATE, () -> game.takeAway(0));
            game.takeAway(1);
            refused("taken away already", game, Check.STATE, () -> game.takeAway(1));
        });
    }

    private static void start() {
        edge("Starts the game. (If side 0 is stalled then, the game is a draw at once.)", "side 0 is stalled", () -> {
            BrackenGambit game = board("0La1:1 1Lb1:0");
            boolean filled = Beyond.diagonalPieces(game, 0);
            same("moves", game.start(), filled ? 0 : 1);
            same("over", game.isOver(), filled);
            refused("a draw", game, Check.NO_ELEMENT, game::winner);
            same("the board has come up", game.repetitions(), 1);
            same("no move", game.whyNot(at("a1"), at("c2")), filled ? 1 : 4);
        });
        edge("Starts the game.", "the least that is needed", () -> {
            BrackenGambit game = board("0La1:1 1Lf6:0");
            game.start();
            same("not over", game.isOver(), false);
            same("started", game.whyNot(at("a1"), at("b2")), 0);
        });
        edge(MODIFICATION, "recorded and undone", () -> {
            BrackenGambit game = board("0La1:0 1Lf6:0");
            String before = Check.stateOf(game);
            game.start();
            same("recorded", game.historySize(), 3);
            game.undo();
            same("undone", Check.stateOf(game), before);
            same("not started", game.whyNot(0, 1), 1);
            same("started again", game.start(), 2);
        });
        edge("Returns the number of moves of side 0.", "one move, and not the other side's", () -> {
            same("one", board("0La1:1 1Lf6:01234").start(), 1);
            same("all of a side", board("0La1:0 0Pa2:0 1Lf6:0").start(), 3);
        });
    }

    private static void refusedStarts() {
        String state = "Throws `IllegalStateException` if it is started already, or a side has no leader";
        edge(state, "started already", () -> {
            BrackenGambit game = leaders();
            refused("at once", game, Check.STATE, game::start);
            moves(game, "a1b1");
            refused("later", game, Check.STATE, game::start);
            BrackenGambit over = drawnByRepetition();
            refused("after the end", over, Check.STATE, over::start);
        });
        edge(state, "side 0 has no leader", () -> {
            BrackenGambit game = board("0Pa1:0 1Lf6:0");
            refused("a piece alone", game, Check.STATE, game::start);
        });
        edge(state, "side 1 has no leader", () -> {
            BrackenGambit game = board("0La1:0 1Pf6:0");
            refused("a piece alone", game, Check.STATE, game::start);
            game.putLeader(1, 1, 1);
            game.takeAway(1);
            refused("taken away", game, Check.STATE, game::start);
        });
        edge(state, "no side has a leader", () -> {
            BrackenGambit game = new BrackenGambit();
            refused("an empty board", game, Check.STATE, game::start);
        });
    }
}
