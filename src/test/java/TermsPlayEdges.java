/** The edges that the document's terms name of play and of guarding. */
final class TermsPlayEdges extends Edges {
    private static final String THIRD_TIME = "If a board has come up for the third time in the game "
            + "(the same side to move, the same pieces with the same steps on the same squares; "
            + "the board at the start counts as well), the game is a draw.";

    static void run() {
        section("Terms");
        beforeAndTurns();
        captures();
        stalled();
        thirdTime();
        sameBoard();
        sameButForOnePiece();
        end();
        guarding();
        whicheverSide();
    }

    private static void beforeAndTurns() {
        edge("Before the game is started, pieces can be put and taken away.", "before and after the start", () -> {
            BrackenGambit game = board("0La1:0 1Lf6:0");
            same("put before", game.putPiece(0, at("c3"), 1), 2);
            same("taken away before", game.takeAway(at("c3")), 1);
            game.start();
            refused("put after", game, Check.STATE, () -> game.putPiece(0, at("c3"), 1));
            refused("taken away after", game, Check.STATE, () -> game.takeAway(at("a1")));
            game.undo();
            same("put when the start is undone", game.putPiece(0, at("c3"), 1), 2);
        });
        String turns = "When it is started, side 0 is to move; from then on the sides move in turn.";
        edge(turns, "the first move", () -> {
            BrackenGambit game = leaders();
            same("side 0 is to move", game.toMove(), 0);
            refused("side 1 is not", game, Check.STATE, () -> game.move(at("f6"), at("f5")));
            same("side 0 moves", game.move(at("a1"), at("b1")), 0);
        });
        edge(turns, "two moves of one side", () -> {
            BrackenGambit game = leaders();
            moves(game, "a1b1");
            refused("side 0 twice", game, Check.STATE, () -> game.move(at("b1"), at("c1")));
            moves(game, "f6f5");
            refused("side 1 twice", game, Check.STATE, () -> game.move(at("f5"), at("f4")));
        });
    }

    private static void captures() {
        String move = "A move takes a piece of the side to move by one of its steps to a square "
                + "that is empty or has a piece of the other side";
        edge(move, "an empty square, the other side's and an own one", () -> {
            BrackenGambit game = started("0La1:0 0Pa2:0 1Pb1:0 1Lf6:0");
            refused("an own one", game, Check.STATE, () -> game.move(at("a1"), at("a2")));
            same("the other side's", game.move(at("a1"), at("b1")), 1);
            same("an empty one", game.move(at("f6"), at("f5")), 0);
            refused("by no step of its", game, Check.STATE, () -> game.move(at("a2"), at("b3")));
        });
        String captured = "which is captured: it is removed, and the capturing piece learns its steps";
        edge(captured, "the captured piece is removed", () -> {
            BrackenGambit game = started("0La1:0 1Pb1:0 1Lf6:0");
            moves(game, "a1b1");
            same("one piece less", game.pieces(1), 1);
            same("the other side's stands there", game.sideAt(at("b1")), 0);
            refused("none stands where it came from", game, Check.NO_ELEMENT, () -> game.sideAt(at("a1")));
        });
        edge(captured, "learning all, some and none of the steps", () -> {
            String[] kinds = {"24", "01", "0", "01234"};
            int[] due = {1 + 4 + 16, 1 + 2, 1, 31};
            for (int i = 0; i < kinds.length; i++) {
                BrackenGambit game = started("0La1:0 1Pb1:" + kinds[i] + " 1Lf6:0");
                moves(game, "a1b1");
                same("from a piece with " + kinds[i], game.stepsAt(at("b1")), due[i]);
                same("and it still leads", game.leaderOf(0), at("b1"));
            }
        });
        edge(captured, "being a leader is not learnt", () -> {
            BrackenGambit game = started("0Lf1:0 0Pa1:0 1La2:1");
            moves(game, "a1a2");
            same("the worth of its kinds alone", game.worthAt(at("a2")), 2);
        });
        String leader = "A captured leader ends the game: the side that captures wins.";
        edge(leader, "a captured leader of each side", () -> {
            BrackenGambit first = started("0La1:0 1La2:0 1Pf6:0");
            moves(first, "a1a2");
            same("over", first.isOver(), true);
            same("side 0 wins", first.winner(), 0);
            BrackenGambit second = started("0La1:0 0Pf1:0 1La2:0");
            moves(second, "f1e1 a2a1");
            same("over", second.isOver(), true);
            same("side 1 wins", second.winner(), 1);
        });
        edge(leader, "captures of pieces that are no leaders", () -> {
            BrackenGambit game = started("0La1:0 0Pe6:0 1Pa2:01234 1Lf6:0");
            moves(game, "a1a2");
            same("a leader captures the last piece", game.isOver(), false);
            moves(game, "f6e6");
            same("and so does the other", game.isOver(), false);
            refused("nobody has won", game, Check.NO_ELEMENT, game::winner);
        });
    }

    private static void stalled() {
        String sentence = "If a side to move has no moves, it is stalled, and the game is a draw.";
        edge(sentence, "no move for a side", () -> {
            BrackenGambit game = board("0Lb1:1 1La1:1");
            boolean filled = Beyond.diagonalPieces(game, 1);
            same("moves of side 0", game.start(), 2);
            same("not over while side 1 is not to move", game.isOver(), false);
            moves(game, "b1a2");
            same("over without moves of side 1", game.isOver(), filled);
            refused("a draw", game, Check.NO_ELEMENT, game::winner);
            same("side 1 would be to move", game.toMove(), 1);
            same("and can not", game.whyNot(at("a1"), at("a2")), filled ? 1 : 4);
        });
        edge(sentence, "one move for a side", () -> {
            BrackenGambit game = started("0La1:1 1Lf6:1");
            same("one of side 0", game.moveCount(0), 1);
            same("is enough", game.isOver(), false);
            moves(game, "a1b2");
            same("one of side 1", game.moveCount(1), 1);
            same("is enough", game.isOver(), false);
        });
    }

    private static void thirdTime() {
        edge(THIRD_TIME, "the second time and the third", () -> {
            BrackenGambit game = leaders();
            moves(game, "a1b1 f6e6 b1a1 e6f6");
            same("twice", game.repetitions(), 2);
            same("no draw yet", game.isOver(), false);
            moves(game, "a1b1 f6e6 b1a1");
            same("one move before", game.isOver(), false);
            moves(game, "e6f6");
            same("three times", game.repetitions(), 3);
            same("over", game.isOver(), true);
            refused("a draw", game, Check.NO_ELEMENT, game::winner);
        });
        edge(THIRD_TIME, "the board at the start counts", () -> {
            BrackenGambit game = leaders();
            same("once at the start", game.repetitions(), 1);
            moves(game, "a1b1 f6e6 b1a1 e6f6");
            same("twice when it is back", game.repetitions(), 2);
        });
        edge(THIRD_TIME, "another board than the one at the start", () -> {
            BrackenGambit game = leaders();
            moves(game, "a1a2 f6e6 a2b2 e6f6 b2a2 f6e6 a2b2 e6f6");
            same("twice at most", game.isOver(), false);
            moves(game, "b2a2");
            same("three times", game.isOver(), true);
            same("with side 1 to move", game.toMove(), 1);
        });
        edge(THIRD_TIME, "three times with others between", () -> {
            BrackenGambit game = leaders();
            moves(game, "a1b1 f6e6 b1a1 e6f6 a1a2 f6f5 a2b2 f5f6 b2b1 f6e6 b1a1");
            same("not yet", game.isOver(), false);
            moves(game, "e6f6");
            same("three times", game.repetitions(), 3);
            same("over", game.isOver(), true);
        });
    }

    private static void sameBoard() {
        edge(THIRD_TIME, "the other side to move", () -> {
            BrackenGambit game = started("0La1:01 1Lf6:01");
            moves(game, "a1a2 f6e6 a2b1 e6f6 b1a1");
            same("the first time so", game.repetitions(), 1);
            moves(game, "f6e6 a1b1 e6f5 b1a1 f5f6");
            same("the second time as at the start", game.repetitions(), 2);
            same("no draw", game.isOver(), false);
        });
        edge(THIRD_TIME, "other steps on a square", () -> {
            BrackenGambit game = started("0Pa1:01 0Pb1:012 0Lf1:0 1Lf6:01");
            moves(game, "a1a2 f6e6 b1a1 e6f5 a2b1 f5f6");
            same("the first time so", game.repetitions(), 1);
        });
        edge(THIRD_TIME, "the leader on another square", () -> {
            BrackenGambit game = started("0La1:01 0Pb1:01 1Lf6:01");
            moves(game, "a1a2 f6e6 b1a1 e6f5 a2b1 f5f6");
            same("the first time so", game.repetitions(), 1);
        });
        edge(THIRD_TIME, "the other side's piece on a square", () -> {
            BrackenGambit game = started("0Pc3:01 1Pc4:01 0La1:0 1Lf6:0");
            moves(game, "c3b4 c4d3 b4c4 d3c3");
            same("the first time so", game.repetitions(), 1);
        });
        edge(THIRD_TIME, "a piece on another square", () -> {
            for (int square = 0; square < at("d6"); square++) {
                if (square % 6 < 4 && square != at("d5")) {
                    same("from " + square, timesTwoSquaresAside(square), 1);
                }
            }
        });
    }

    private static void sameButForOnePiece() {
        edge(THIRD_TIME, "one piece less than before", () -> {
            for (int square = 0; square < 36; square++) {
                same("captured on " + square, timesAfterCaptureOn(square), 1);
            }
        });
    }

    /** The capturing piece goes back, so that the board differs by the captured piece alone. */
    private static int timesAfterCaptureOn(int square) {
        int beside = square % 6 < 5 ? square + 1 : square - 1;
        String far = square < 18 ? "f6f5 f5f6" : "a1a2 a2a1";
        BrackenGambit game = new BrackenGambit();
        game.putLeader(0, beside, 1);
        game.putPiece(1, square, 1);
        game.putLeader(1, at(far), 1);
        game.start();
        game.move(beside, square);
        moves(game, far.substring(0, 4));
        game.move(square, beside);
        moves(game, far.substring(5));
        return game.repetitions();
    }

    private static int timesTwoSquaresAside(int square) {
        BrackenGambit game = new BrackenGambit();
        game.putLeader(0, square, 1);
        game.putLeader(1, at("f6"), 1);
        game.start();
        game.move(square, square + 1);
        moves(game, "f6f5");
        game.move(square + 1, square + 2);
        moves(game, "f5f6");
        return game.repetitions();
    }

    private static void end() {
        String sentence = "After the end nobody can move.";
        edge(sentence, "after a leader is captured", () -> {
            BrackenGambit game = wonByCapture();
            refused("the side that would be to move", game, Check.STATE, () -> game.move(at("f6"), at("f5")));
            refused("the winner", game, Check.STATE, () -> game.move(at("f1"), at("f2")));
            Check.type(game, "f6f5");
            same("no move of a text", game.play(), 0);
            same("it stands still", game.sideAt(at("f6")), 1);
        });
        edge(sentence, "after a board came up for the third time", () -> {
            BrackenGambit game = drawnByRepetition();
            refused("side 0", game, Check.STATE, () -> game.move(at("a1"), at("b1")));
            refused("side 1", game, Check.STATE, () -> game.move(at("f6"), at("f5")));
            Check.type(game, "a1b1");
            same("no move of a text", game.play(), 0);
        });
        edge(sentence, "when the end is undone", () -> {
            BrackenGambit won = wonByCapture();
            won.undo();
            same("another move instead", won.move(at("f1"), at("f2")), 0);
            BrackenGambit drawn = drawnByRepetition();
            drawn.undo();
            same("another move instead", drawn.move(at("e6"), at("d6")), 0);
        });
    }

    private static void guards(String what, BrackenGambit game, int side, String square, int due) {
        same(what, game.guards(side, at(square)), due);
        same(what + ", by looking", game.guardsByLooking(side, at(square)), due);
        same(what + ", among the guarded", (game.guarded(side) >> at(square) & 1L) != 0L, due > 0);
    }

    private static void guarding() {
        String sentence = "A side guards a square if one of its pieces could capture there a piece of the other side";
        edge(sentence, "whatever stands there", () -> {
            BrackenGambit game = board("0Pc3:0 0Pc4:2 1Pd3:4");
            guards("an empty square", game, 0, "b3", 1);
            guards("an own piece", game, 0, "c4", 1);
            guards("the other side's piece", game, 0, "d3", 1);
        });
        edge(sentence, "nothing behind a piece", () -> {
            BrackenGambit game = board("0Pa1:34 0Pa3:2 1Pc3:2");
            guards("before an own piece", game, 0, "a2", 1);
            guards("on an own piece", game, 0, "a3", 1);
            guards("behind an own piece", game, 0, "a4", 0);
            guards("on the other side's", game, 0, "c3", 1);
            guards("behind the other side's", game, 0, "d4", 0);
        });
        edge("a piece does not guard its own square", "a piece alone and with another", () -> {
            BrackenGambit game = board("0Pc3:01234");
            guards("alone", game, 0, "c3", 0);
            game.putPiece(0, at("d4"), 2);
            guards("with another", game, 0, "c3", 1);
            guards("the other", game, 0, "d4", 1);
        });
    }

    private static void whicheverSide() {
        edge("whichever side is to move", "before, in and after the game", () -> {
            BrackenGambit game = board("0La1:0 1Lf6:0 0Pc3:0");
            guards("before the start, side 0", game, 0, "a2", 1);
            guards("before the start, side 1", game, 1, "f5", 1);
            game.start();
            guards("side 0 to move, side 0", game, 0, "a2", 1);
            guards("side 0 to move, side 1", game, 1, "f5", 1);
            moves(game, "c3c4");
            guards("side 1 to move, side 0", game, 0, "a2", 1);
            guards("side 1 to move, side 1", game, 1, "f5", 1);
            BrackenGambit over = wonByCapture();
            guards("after the end, side 0", over, 0, "a3", 1);
            guards("after the end, side 1", over, 1, "f5", 1);
        });
    }
}
