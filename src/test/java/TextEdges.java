/** The edges that the promises 9 to 13 name: append, clearText, isValid, firstError, undo. */
final class TextEdges extends Edges {
    private static final String TWELVE = "a1b1 a1b1 a1b1 a1b1 a1b1 a1b1 a1b1 a1b1 a1b1 a1b1 a1b1 a1b1";

    static void run() {
        section("Promise 9");
        append();
        section("Promise 10");
        clearText();
        section("Promise 11");
        isValid();
        section("Promise 12");
        firstError();
        section("Promise 13");
        undo();
        undoTheGame();
    }

    private static void append() {
        edge("Appends a character to the text buffer.", "at the end, not elsewhere", () -> {
            BrackenGambit game = text("a1b");
            game.append('2');
            same("a list", game.isValid(), true);
            game.append('x');
            same("behind the others", game.firstError(), 4);
        });
        edge("Appends a character to the text buffer.", "no modification", () -> {
            BrackenGambit game = text("a1b1");
            same("nothing is recorded", game.historySize(), 0);
        });
        edge("- `character`: any character", "the first and the last character there are", () -> {
            BrackenGambit game = new BrackenGambit();
            char[] characters = {Character.MIN_VALUE, '\n', ' ', 127, 128, 255, 256, 0xd800, Character.MAX_VALUE};
            for (int i = 0; i < characters.length; i++) {
                same("character " + (int) characters[i], game.append(characters[i]), i + 1);
            }
        });
        edge("- `character`: any character", "a character that is like another but for its high bits", () -> {
            same("256 more than a", text((char) ('a' + 256) + "1b1").firstError(), 0);
            same("256 more than 1", text("a" + (char) ('1' + 256) + "b1").firstError(), 1);
            same("256 more than a blank", text("a1b1" + (char) (' ' + 256)).firstError(), 4);
        });
        edge("Returns the length of the buffer afterwards.", "the first length and the last", () -> {
            BrackenGambit game = new BrackenGambit();
            for (int length = 1; length <= 60; length++) {
                same("length", game.append('a'), length);
            }
        });
        edge("Throws `IllegalStateException` if the buffer has 60 characters", "59 and 60 characters", () -> {
            BrackenGambit game = text(TWELVE);
            same("59", game.append('a'), 60);
            refused("60", game, Check.STATE, () -> game.append('a'));
            game.clearText();
            same("none", game.append('a'), 1);
        });
    }

    private static void clearText() {
        edge("Clears the text buffer.", "nothing remains", () -> {
            BrackenGambit game = text("a1b1");
            game.clearText();
            same("no list", game.isValid(), false);
            same("no characters", game.firstError(), 0);
            same("the next is the first", game.append('c'), 1);
            Check.type(game, "3c4");
            same("the old ones are gone", game.isValid(), true);
        });
        edge("Clears the text buffer.", "no modification", () -> {
            BrackenGambit game = text("a1b1");
            game.clearText();
            same("nothing is recorded", game.historySize(), 0);
        });
        edge("Returns the length that it had.", "an empty text, one character, a full text", () -> {
            same("empty", new BrackenGambit().clearText(), 0);
            same("one", text("x").clearText(), 1);
            BrackenGambit full = text(TWELVE + " ");
            same("full", full.clearText(), 60);
            same("cleared already", full.clearText(), 0);
        });
    }

    private static void isValid() {
        String sentence = "Tells whether the text buffer is a list of moves.";
        edge(sentence, "the shortest list and the longest", () -> {
            same("shortest", text("a1a2").isValid(), true);
            same("longest", text(TWELVE).isValid(), true);
        });
        edge(sentence, "one character less or more", () -> {
            same("empty", text("").isValid(), false);
            same("less", text("a1a").isValid(), false);
            same("more", text("a1a2a").isValid(), false);
            same("less of twelve", text(TWELVE.substring(0, 58)).isValid(), false);
            same("more of twelve", text(TWELVE + " ").isValid(), false);
        });
        edge("Returns true if it is.", "each length of twelve moves", () -> {
            for (int length = 0; length <= 59; length++) {
                same("length " + length, text(TWELVE.substring(0, length)).isValid(), length % 5 == 4);
            }
        });
        edge("Returns true if it is.", "a list that can not be played", () -> {
            BrackenGambit game = leaders();
            Check.type(game, "c3c4");
            same("no such move", game.isValid(), true);
        });
    }

    private static void firstError() {
        String sentence = "Returns the index of the first error of the text buffer.";
        edge(sentence, "each length of twelve moves", () -> {
            for (int length = 0; length <= 59; length++) {
                if (length % 5 != 4) {
                    same("length " + length, text(TWELVE.substring(0, length)).firstError(), length);
                }
            }
        });
        edge(sentence, "an error at each index", () -> {
            for (int index = 0; index < 60; index++) {
                same("index " + index, text(TWELVE.substring(0, index) + "x").firstError(), index);
            }
        });
        edge("Returns the index.", "the least and the greatest index", () -> {
            same("least", text("x").firstError(), 0);
            same("of an empty text", text("").firstError(), 0);
            same("greatest", text(TWELVE + " ").firstError(), 60);
        });
        edge("Throws `IllegalStateException` if the buffer is a list of moves", "a list of moves", () -> {
            BrackenGambit shortest = text("a1b1");
            refused("the shortest", shortest, Check.STATE, shortest::firstError);
            BrackenGambit longest = text(TWELVE);
            refused("the longest", longest, Check.STATE, longest::firstError);
        });
    }

    private static void undo() {
        String sentence = "Restores the latest state of the history, and removes it from the history.";
        edge(sentence, "the latest state", () -> {
            BrackenGambit game = board("0Pa1:0 0Pb1:0 0Pc1:0");
            game.undo();
            same("not an older one", game.pieces(0), 2);
            refused("without c1", game, Check.NO_ELEMENT, () -> game.sideAt(at("c1")));
            game.undo();
            same("then the one before", game.pieces(0), 1);
        });
        edge(sentence, "a state that was dropped and its place used again", () -> {
            BrackenGambit game = piecesOf(0, 8);
            for (int pieces = 7; pieces >= 3; pieces--) {
                game.undo();
                same("back", game.pieces(0), pieces);
            }
            game.putPiece(1, 20, 1);
            game.undo();
            same("of side 0", game.pieces(0), 3);
            same("of side 1", game.pieces(1), 0);
        });
        edge(sentence, "a modification after undo", () -> {
            BrackenGambit game = board("0Pa1:0 0Pb1:0");
            game.undo();
            game.putPiece(0, 35, 2);
            same("two again", game.historySize(), 2);
            game.undo();
            same("without f6", game.pieces(0), 1);
            game.undo();
            same("without a1", game.pieces(0), 0);
        });
        edge("Returns the number of states that remain in the history.", "four and none", () -> {
            BrackenGambit game = piecesOf(0, 6);
            for (int left = 4; left >= 0; left--) {
                same("left", game.undo(), left);
            }
        });
        edge("Throws `IllegalStateException` if the history is empty", "an empty history", () -> {
            BrackenGambit fresh = new BrackenGambit();
            refused("a new object's", fresh, Check.STATE, fresh::undo);
            BrackenGambit game = piecesOf(0, 6);
            for (int i = 0; i < 5; i++) {
                game.undo();
            }
            refused("after five", game, Check.STATE, game::undo);
        });
    }

    private static void undoTheGame() {
        String sentence = "Restores the latest state of the history, and removes it from the history.";
        edge(sentence, "a capture", () -> {
            BrackenGambit game = started("0La1:0 1Pa2:24 1Lf6:0");
            moves(game, "a1a2");
            game.undo();
            same("the captured is back", game.sideAt(at("a2")), 1);
            same("what was learnt is not", game.stepsAt(at("a1")), 1);
            same("the account of side 0", game.worthByAccount(0), 11);
            same("the account of side 1", game.worthByAccount(1), 17);
            same("nothing is captured", game.captured(0), 0);
            same("side 0 is to move", game.toMove(), 0);
            same("no move was made", game.movesMade(), 0);
        });
        edge(sentence, "the end of the game", () -> {
            BrackenGambit game = wonByCapture();
            game.undo();
            same("not over", game.isOver(), false);
            refused("nobody has won", game, Check.NO_ELEMENT, game::winner);
        });
        edge(sentence, "boards that came up", () -> {
            BrackenGambit game = drawnByRepetition();
            game.undo();
            same("twice so far", game.repetitions(), 2);
            moves(game, "e6f6");
            same("the third time again", game.repetitions(), 3);
            same("over again", game.isOver(), true);
        });
        edge(sentence, "boards that came up and were undone do not count", () -> {
            BrackenGambit game = leaders();
            for (int i = 0; i < 4; i++) {
                moves(game, "a1b1");
                same("the first time", game.repetitions(), 1);
                game.undo();
            }
            same("not over", game.isOver(), false);
        });
    }
}
