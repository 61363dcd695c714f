/** The edges that the promises 6 to 8 name: move, play, whyNot. */
final class MoveEdges extends Edges {
    private static final String NO_SQUARE = "Throws `IndexOutOfBoundsException` if there is no such square";

    static void run() {
        section("Promise 6");
        move();
        refusedMoves();
        section("Promise 7");
        play();
        refusedTexts();
        section("Promise 8");
        whyNot();
        whyNotSquares();
    }

    private static void move() {
        edge("Makes a move.", "to the nearest square and the farthest", () -> {
            BrackenGambit game = started("0La1:3 1Lf6:4");
            moves(game, "a1a6");
            same("the farthest", game.leaderOf(0), at("a6"));
            moves(game, "f6e5");
            same("the nearest", game.leaderOf(1), at("e5"));
        });
        edge("This is a modification.", "recorded and undone", () -> {
            BrackenGambit game = started("0La1:0 1Pa2:24 1Lf6:0");
            String before = Check.stateOf(game);
            moves(game, "a1a2");
            same("recorded", game.historySize(), 5);
            game.undo();
            same("undone", Check.stateOf(game), before);
        });
        edge("- `from`: 0 to 35", "from the first square and the last", () -> {
            BrackenGambit game = leaders();
            same("from 0", game.move(0, 1), 0);
            same("from 35", game.move(35, 34), 0);
        });
        edge("- `to`: 0 to 35", "to the first square and the last", () -> {
            BrackenGambit game = started("0Lb1:0 1Le6:0");
            same("to 0", game.move(1, 0), 0);
            same("to 35", game.move(34, 35), 0);
        });
        String worth = "Returns the worth of the captured piece, 0 if none is captured.";
        edge(worth, "none is captured", () -> {
            BrackenGambit game = leaders();
            same("beside none", game.move(at("a1"), at("a2")), 0);
        });
        edge(worth, "the least and the greatest piece", () -> {
            BrackenGambit game = started("0La1:0 1Pa2:0 1Lf6:0");
            same("least", game.move(at("a1"), at("a2")), 1);
            BrackenGambit other = started("0La1:0 1La2:01234");
            same("greatest", other.move(at("a1"), at("a2")), 23);
        });
    }

    private static void refusedMoves() {
        edge(NO_SQUARE, "no such first square", () -> {
            BrackenGambit game = leaders();
            for (int square : NO_SQUARES) {
                refused("from " + square, game, Check.INDEX, () -> game.move(square, 0));
            }
        });
        edge(NO_SQUARE, "no such second square", () -> {
            BrackenGambit game = leaders();
            for (int square : NO_SQUARES) {
                refused("to " + square, game, Check.INDEX, () -> game.move(0, square));
            }
        });
        String reasons = "Throws `IllegalStateException` for the reasons of whyNot()";
        edge(reasons, "reason 1, not started", () -> {
            BrackenGambit game = board("0La1:0 1Lf6:0");
            refused("not started", game, Check.STATE, () -> game.move(0, 1));
        });
        edge(reasons, "reason 1, over", () -> {
            BrackenGambit won = wonByCapture();
            refused("won", won, Check.STATE, () -> won.move(at("f6"), at("f5")));
            BrackenGambit drawn = drawnByRepetition();
            refused("drawn", drawn, Check.STATE, () -> drawn.move(at("a1"), at("a2")));
        });
        edge(reasons, "reason 2", () -> {
            BrackenGambit game = leaders();
            refused("an empty square", game, Check.STATE, () -> game.move(at("b1"), at("b2")));
            refused("the other side's piece", game, Check.STATE, () -> game.move(at("f6"), at("f5")));
        });
        edge(reasons, "reason 3", () -> {
            BrackenGambit game = started("0La1:0 0Pa2:0 1Lf6:0");
            refused("an own piece", game, Check.STATE, () -> game.move(at("a1"), at("a2")));
            refused("itself", game, Check.STATE, () -> game.move(at("a1"), at("a1")));
        });
        edge(reasons, "reason 4", () -> {
            BrackenGambit game = started("0La1:0 1Pb2:0 1Lf6:0");
            refused("two squares", game, Check.STATE, () -> game.move(at("a1"), at("a3")));
            refused("a piece out of reach", game, Check.STATE, () -> game.move(at("a1"), at("b2")));
        });
    }

    private static void play() {
        String sentence = "Makes the moves of the text buffer, one after the other, "
                + "up to the first one that is not possible.";
        edge(sentence, "each of the moves", () -> {
            BrackenGambit game = leaders();
            Check.type(game, "a1b1 f6e6 b1b2");
            same("all", game.play(), 3);
            same("the last one too", game.leaderOf(0), at("b2"));
            same("one after the other", game.movesMade(), 3);
        });
        edge(sentence, "the first move is not possible", () -> {
            BrackenGambit game = leaders();
            Check.type(game, "f6f5 a1b1");
            same("none", game.play(), 0);
            same("not the second one either", game.leaderOf(0), at("a1"));
        });
        edge(sentence, "a move between is not possible", () -> {
            BrackenGambit game = leaders();
            Check.type(game, "a1b1 f6d6 f6e6");
            same("one", game.play(), 1);
            same("not what follows", game.leaderOf(1), at("f6"));
        });
        edge(sentence, "the end comes up before the last move", () -> {
            BrackenGambit game = leaders();
            Check.type(game, "a1b1 f6e6 b1a1 e6f6 a1b1 f6e6 b1a1 e6f6 a1b1 f6e6");
            same("up to the draw", game.play(), 8);
            same("over", game.isOver(), true);
            BrackenGambit won = started("0La1:0 1La2:0 1Pf6:0");
            Check.type(won, "a1a2 f6f5");
            same("up to the win", won.play(), 1);
        });
        edge(sentence, "before the start", () -> {
            BrackenGambit game = board("0La1:0 1Lf6:0");
            Check.type(game, "a1b1");
            same("none", game.play(), 0);
        });
        edge("The buffer is not changed.", "a full list of moves", () -> {
            BrackenGambit game = leaders();
            Check.type(game, "a1b1 f6e6 b1c1");
            game.play();
            same("still a list", game.isValid(), true);
            same("its length", game.clearText(), 14);
        });
        String one = "This is one modification, also if no move is made.";
        edge(one, "several moves", () -> {
            BrackenGambit game = leaders();
            String before = Check.stateOf(game);
            Check.type(game, "a1b1 f6e6 b1c1");
            game.play();
            same("one more", game.historySize(), 4);
            game.undo();
            game.clearText();
            same("undone at once", Check.stateOf(game), before);
        });
        edge(one, "no move is made", () -> {
            BrackenGambit game = leaders();
            Check.type(game, "f6f5");
            game.play();
            same("one more", game.historySize(), 4);
            same("undone", game.undo(), 3);
        });
        edge("Returns the number of moves that are made.", "none, one and twelve", () -> {
            BrackenGambit game = leaders();
            Check.type(game, "a1b1 f6e6 b1c1 e6d6 c1d1 d6c6 d1e1 c6b6 e1f1 b6a6 f1f2 a6a5");
            same("twelve", game.play(), 12);
            same("none", game.play(), 0);
            Check.retype(game, "f2f3");
            same("one", game.play(), 1);
        });
    }

    private static void refusedTexts() {
        edge("Throws `IllegalArgumentException` if the buffer is not a list of moves", "no list of moves", () -> {
            BrackenGambit game = leaders();
            refused("an empty text", game, Check.ARGUMENT, game::play);
            String[] texts = {"a", "a1b", "a1b1 ", "a1b1 f6", "a1b1 f6f6", "a1b1,f6e6", "a1g1", "a1b7"};
            for (String text : texts) {
                Check.retype(game, text);
                refused(text, game, Check.ARGUMENT, game::play);
            }
        });
    }

    private static void why(BrackenGambit game, String from, String to, int due) {
        same("from " + from + " to " + to, game.whyNot(at(from), at(to)), due);
    }

    private static void whyNot() {
        String reasons = "Returns the first of these reasons: 1 the game is not started or over, "
                + "2 there is no piece of the side to move on the first square, 3 there is one on the second square, "
                + "4 none of its steps leads there; 0 if it is possible.";
        edge(reasons, "not started, with the reasons 2, 3 and 4 or none", () -> {
            BrackenGambit game = board("0La1:0 0Pa2:0 1Lf6:0");
            why(game, "a1", "b1", 1);
            why(game, "c3", "c4", 1);
            why(game, "a1", "a2", 1);
            why(game, "a1", "c3", 1);
        });
        edge(reasons, "over, with the reasons 2, 3 and 4 or none", () -> {
            BrackenGambit game = started("0La1:0 1La2:0 1Pf6:0 1Pf5:0");
            moves(game, "a1a2");
            why(game, "f6", "e6", 1);
            why(game, "c3", "c4", 1);
            why(game, "f6", "f5", 1);
            why(game, "f6", "c3", 1);
            why(drawnByRepetition(), "a1", "b1", 1);
        });
        edge(reasons, "no piece of the side to move, with the reasons 3 and 4", () -> {
            BrackenGambit game = leaders();
            why(game, "b1", "b2", 2);
            why(game, "b1", "a1", 2);
            why(game, "f6", "f5", 2);
            why(game, "f6", "a1", 2);
            moves(game, "a1b1");
            why(game, "b1", "a1", 2);
            why(game, "b1", "f6", 2);
        });
        edge(reasons, "a piece of the side on the second square, with the reason 4", () -> {
            BrackenGambit game = started("0La1:0 0Pa2:0 0Pc3:0 1Lf6:0");
            why(game, "a1", "a2", 3);
            why(game, "a1", "c3", 3);
            why(game, "a1", "a1", 3);
        });
        edge(reasons, "no step leads there", () -> {
            BrackenGambit game = started("0La1:3 0Pa3:0 1Pc1:0 1Lf6:0");
            why(game, "a1", "b2", 4);
            why(game, "a1", "a4", 4);
            why(game, "a1", "d1", 4);
            why(game, "a3", "a5", 4);
            why(game, "a3", "f6", 4);
        });
        edge(reasons, "possible", () -> {
            BrackenGambit game = started("0La1:3 0Pa3:0 1Pc1:0 1Lf6:0");
            why(game, "a1", "a2", 0);
            why(game, "a1", "c1", 0);
            moves(game, "a3a4");
            why(game, "f6", "f5", 0);
        });
    }

    private static void whyNotSquares() {
        edge("Tells why a move is not possible.", "a question changes nothing", () -> {
            BrackenGambit game = leaders();
            String before = Check.lookAt(game);
            game.whyNot(0, 1);
            game.whyNot(0, 35);
            same("the same", Check.lookAt(game), before);
        });
        edge("- `from`: 0 to 35", "from each square", () -> {
            BrackenGambit game = leaders();
            for (int from = 0; from < 36; from++) {
                same("from " + from, game.whyNot(from, 1), from == 0 ? 0 : 2);
            }
        });
        edge("- `to`: 0 to 35", "to each square", () -> {
            BrackenGambit game = leaders();
            for (int to = 0; to < 36; to++) {
                same("to " + to, game.whyNot(0, to), to == 0 ? 3 : to == 1 || to == 6 ? 0 : 4);
            }
        });
        edge(NO_SQUARE, "no such squares", () -> {
            BrackenGambit game = leaders();
            for (int square : NO_SQUARES) {
                refused("from " + square, game, Check.INDEX, () -> game.whyNot(square, 0));
                refused("to " + square, game, Check.INDEX, () -> game.whyNot(0, square));
            }
        });
        edge(NO_SQUARE, "no such squares without a game", () -> {
            BrackenGambit game = new BrackenGambit();
            for (int square : NO_SQUARES) {
                refused("from " + square, game, Check.INDEX, () -> game.whyNot(square, 0));
                refused("to " + square, game, Check.INDEX, () -> game.whyNot(0, square));
            }
        });
    }
}
