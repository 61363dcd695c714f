/** The edges that the document's terms name of the text, the history and the exceptions. */
final class TermsTextEdges extends Edges {
    private static final String TWELVE = "a1b1 a1b1 a1b1 a1b1 a1b1 a1b1 a1b1 a1b1 a1b1 a1b1 a1b1 a1b1";
    private static final String FIRST_ERROR = "The first error of a buffer that is not a list of moves is the index of "
            + "the first character that cannot follow the characters in front of it in any list, "
            + "or the length of the buffer if there is no such character.";

    static void run() {
        section("Terms");
        buffer();
        squareNames();
        lists();
        firstErrors();
        history();
        exceptions();
        whichExceptions();
    }

    private static void buffer() {
        String sentence = "There is a text buffer of at most 60 characters, initially empty.";
        edge(sentence, "the 60th and the 61st character", () -> {
            BrackenGambit game = text(TWELVE);
            same("the 60th", game.append(' '), 60);
            refused("the 61st", game, Check.STATE, () -> game.append('a'));
            same("60 remain", game.clearText(), 60);
        });
        edge(sentence, "a new object's buffer", () -> {
            same("its length", new BrackenGambit().clearText(), 0);
            same("with one character", new BrackenGambit().append('a'), 1);
        });
    }

    private static void squareNames() {
        String sentence = "A square is written as a letter from \"a\" to \"f\" (the columns 0 to 5) "
                + "and a digit from \"1\" to \"6\" (the rows 0 to 5).";
        edge(sentence, "the first and the last letter and digit", () -> {
            for (String move : new String[] {"a1f6", "f6a1", "a6f1", "f1a6"}) {
                same(move, text(move).isValid(), true);
            }
        });
        edge(sentence, "the letters and digits beside them", () -> {
            for (String name : new String[] {"`1", "g1", "A1", "F1", "a0", "a7", "1a", "11", "aa"}) {
                same(name + " first", text(name + "b2").isValid(), false);
                same(name + " second", text("b2" + name).isValid(), false);
            }
        });
        edge(sentence, "the square that each name means", () -> {
            for (int square = 0; square < 35; square++) {
                int to = square % 6 < 5 ? square + 1 : square + 6;
                BrackenGambit game = new BrackenGambit();
                game.putLeader(0, square, 1);
                game.putLeader(1, to == 35 ? 0 : 35, 1);
                game.start();
                Check.type(game, nameOf(square) + nameOf(to));
                same("from " + nameOf(square), game.play(), 1);
                same("to " + nameOf(to), game.leaderOf(0), to);
            }
        });
    }

    private static String nameOf(int square) {
        return "abcdef".charAt(square % 6) + "" + "123456".charAt(square / 6);
    }

    private static void lists() {
        String sentence = "A list of moves consists of one or more moves separated by \" \"; "
                + "a move is a square, and a square other than the first one.";
        edge(sentence, "no move, one and twelve", () -> {
            same("no move", text("").isValid(), false);
            same("one", text("a1b1").isValid(), true);
            same("two", text("a1b1 c3d4").isValid(), true);
            same("twelve", text(TWELVE).isValid(), true);
        });
        edge(sentence, "what separates two moves", () -> {
            for (String between : new String[] {"", "  ", ",", "\t", "-"}) {
                same("moves with \"" + between + "\" between", text("a1b1" + between + "c3d4").isValid(), false);
            }
        });
        edge(sentence, "a blank at the beginning or the end", () -> {
            same("at the beginning", text(" a1b1").isValid(), false);
            same("at the end", text("a1b1 ").isValid(), false);
            same("at the end of twelve moves", text(TWELVE + " ").isValid(), false);
            same("inside a move", text("a1 b1").isValid(), false);
        });
        edge(sentence, "a part of a move", () -> {
            for (String part : new String[] {"a", "a1", "a1b", "a1b1 c", "a1b1 c3", "a1b1 c3d"}) {
                same(part, text(part).isValid(), false);
            }
        });
        edge(sentence, "the first square once more", () -> {
            same("the same", text("c3c3").isValid(), false);
            same("the same in the second move", text("a1b1 c3c3").isValid(), false);
            same("the same column", text("c3c4").isValid(), true);
            same("the same row", text("c3d3").isValid(), true);
            same("the first move's squares again", text("a1b1 b1a1 a1b1").isValid(), true);
        });
    }

    private static void firstError(String text, int due) {
        same("first error of \"" + text + "\"", text(text).firstError(), due);
    }

    private static void firstErrors() {
        edge(FIRST_ERROR, "an error at the first character", () -> {
            firstError("1", 0);
            firstError(" ", 0);
            firstError("ga1b1", 0);
        });
        edge(FIRST_ERROR, "an error at the last character", () -> {
            firstError("a1b7", 3);
            firstError("a1b1x", 4);
            firstError(TWELVE + "a", 59);
        });
        edge(FIRST_ERROR, "no such character", () -> {
            firstError("", 0);
            firstError("a", 1);
            firstError("a1b", 3);
            firstError("a1b1 ", 5);
            firstError(TWELVE + " ", 60);
        });
        edge(FIRST_ERROR, "the digit that makes the first square again", () -> {
            firstError("c3c3", 3);
            firstError("c3c3 d4", 3);
            firstError("a1b1 c3c3", 8);
            firstError("c3c", 3);
        });
        edge(FIRST_ERROR, "the first of two errors", () -> {
            firstError("a1b1  x", 5);
            firstError("xx", 0);
            firstError("a0b0", 1);
        });
    }

    private static void history() {
        String kept = "A history of at most 5 states is kept; when one more is recorded, the oldest one is dropped; "
                + "undo() removes and restores the latest one.";
        edge(kept, "the fifth state and the sixth", () -> {
            same("five", piecesOf(0, 5).historySize(), 5);
            BrackenGambit game = piecesOf(0, 6);
            same("no sixth", game.historySize(), 5);
            for (int left = 4; left >= 0; left--) {
                same("undone", game.undo(), left);
                same("the latest first", game.pieces(0), 1 + left);
            }
            refused("the oldest is dropped", game, Check.STATE, game::undo);
        });
        edge(kept, "no state", () -> {
            BrackenGambit game = new BrackenGambit();
            refused("of a new object", game, Check.STATE, game::undo);
            game.putPiece(0, 0, 1);
            same("one", game.undo(), 0);
            refused("once more", game, Check.STATE, game::undo);
        });
        edge("A state consists of everything but the text buffer and the history.", "what undo leaves", () -> {
            BrackenGambit game = text("a1b1");
            game.putPiece(0, 0, 1);
            game.append(' ');
            game.undo();
            same("the text", game.clearText(), 5);
            game.putPiece(0, 0, 1);
            game.undo();
            same("an empty text", game.clearText(), 0);
        });
        edge("A state consists of everything but the text buffer and the history.", "what undo restores", () -> {
            BrackenGambit game = started("0La1:03 1La2:024 0Pf1:0 1Pf6:0");
            String before = Check.stateOf(game);
            moves(game, "a1a2");
            same("another state", Check.stateOf(game).equals(before), false);
            game.undo();
            same("the whole state", Check.stateOf(game), before);
        });
        String recorded = "Each method that is described as a modification records the state before it, "
                + "also if the state remains the same, unless it throws an exception.";
        edge(recorded, "a modification that changes nothing", () -> {
            BrackenGambit game = text("a1b1");
            same("no move is made", game.play(), 0);
            same("recorded", game.historySize(), 1);
            same("undone", game.undo(), 0);
        });
        edge(recorded, "a modification that throws", () -> {
            BrackenGambit game = board("0La1:0");
            refused("putPiece", game, Check.STATE, () -> game.putPiece(0, 0, 1));
            refused("putLeader", game, Check.STATE, () -> game.putLeader(0, 1, 1));
            refused("takeAway", game, Check.STATE, () -> game.takeAway(1));
            refused("start", game, Check.STATE, game::start);
            refused("move", game, Check.STATE, () -> game.move(0, 1));
            refused("play", game, Check.ARGUMENT, game::play);
            same("one is recorded", game.historySize(), 1);
        });
        edge(recorded, "a method that is no modification", () -> {
            BrackenGambit game = new BrackenGambit();
            game.append('a');
            Check.lookAt(game);
            game.whyNot(0, 1);
            game.clearText();
            same("none is recorded", game.historySize(), 0);
        });
    }

    private static void exceptions() {
        String nothing = "A method that throws an exception changes nothing.";
        edge(nothing, "each method before the game", () -> {
            BrackenGambit game = board("0La1:0 0Pb2:1");
            Check.type(game, "a1b");
            throwEach(game);
        });
        edge(nothing, "each method in the game", () -> {
            BrackenGambit game = leaders();
            Check.type(game, "a1b");
            throwEach(game);
            refused("start", game, Check.STATE, game::start);
        });
        edge(nothing, "each method after the end", () -> {
            BrackenGambit game = wonByCapture();
            Check.type(game, "a1b");
            throwEach(game);
            refused("start", game, Check.STATE, game::start);
        });
        edge(nothing, "a full text", () -> {
            BrackenGambit game = text(TWELVE + " ");
            refused("append", game, Check.STATE, () -> game.append('a'));
        });
    }

    private static void throwEach(BrackenGambit game) {
        refused("putPiece", game, Check.STATE, () -> game.putPiece(0, game.leaderOf(0), 1));
        refused("putLeader", game, Check.STATE, () -> game.putLeader(0, game.leaderOf(0), 1));
        refused("takeAway", game, Check.STATE, () -> game.takeAway(at("c3")));
        refused("move", game, Check.STATE, () -> game.move(at("c3"), at("c4")));
        refused("play", game, Check.ARGUMENT, game::play);
        refused("sideAt", game, Check.NO_ELEMENT, () -> game.sideAt(at("c3")));
        refused("stepsAt", game, Check.NO_ELEMENT, () -> game.stepsAt(at("c3")));
        refused("worthAt", game, Check.NO_ELEMENT, () -> game.worthAt(at("c3")));
        refused("reach", game, Check.NO_ELEMENT, () -> game.reach(at("c3")));
        refused("exchange", game, Check.NO_ELEMENT, () -> game.exchange(at("c3")));
        refused("weakest", game, Check.NO_ELEMENT, () -> game.weakest(0));
    }

    private static void whichExceptions() {
        String first = "If several exceptions apply, "
                + "the one that is listed first in the method's throws clause is thrown.";
        edge(first, "index before argument before state", () -> {
            BrackenGambit game = leaders();
            refused("putPiece side", game, Check.INDEX, () -> game.putPiece(2, 0, 0));
            refused("putPiece square", game, Check.INDEX, () -> game.putPiece(0, 36, 0));
            refused("putPiece steps", game, Check.ARGUMENT, () -> game.putPiece(0, 0, 0));
            refused("putLeader side", game, Check.INDEX, () -> game.putLeader(-1, 0, 32));
            refused("putLeader square", game, Check.INDEX, () -> game.putLeader(1, -1, 32));
            refused("putLeader steps", game, Check.ARGUMENT, () -> game.putLeader(1, 0, 32));
        });
        edge(first, "index before state", () -> {
            BrackenGambit fresh = new BrackenGambit();
            refused("move from", fresh, Check.INDEX, () -> fresh.move(36, 0));
            refused("move to", fresh, Check.INDEX, () -> fresh.move(0, 36));
            BrackenGambit game = leaders();
            refused("takeAway", game, Check.INDEX, () -> game.takeAway(-1));
        });
        String which = "IndexOutOfBoundsException is thrown if there is no square, side or kind with a given number; "
                + "IllegalArgumentException if another argument is out of range.";
        edge(which, "the numbers beside the first and the last one", () -> {
            BrackenGambit game = board("0La1:0 1Lf6:0");
            for (int square : NO_SQUARES) {
                refused("square " + square, game, Check.INDEX, () -> game.sideAt(square));
            }
            for (int side : NO_SIDES) {
                refused("side " + side, game, Check.INDEX, () -> game.pieces(side));
            }
            for (int kind : NO_KINDS) {
                refused("kind " + kind, game, Check.INDEX, () -> game.knowing(0, kind));
            }
            for (int steps : NO_STEPS) {
                refused("steps " + steps, game, Check.ARGUMENT, () -> game.putPiece(0, 1, steps));
            }
        });
    }
}
