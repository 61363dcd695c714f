import java.util.function.BiConsumer;
import java.util.function.ToIntBiFunction;

/** The edges that the promises 32 to 36 name: worth, worthByAccount, captured, worthShare, historySize. */
final class TotalEdges extends Edges {
    private static final String ALL_WORTHS = "0La1:01234 0Pb1:01234 0Pc1:01234 0Pd1:01234 "
            + "0Pe1:01234 0Pf1:01234 0Pa2:01234 0Pf6:01234";

    static void run() {
        section("Promise 32");
        worths(BrackenGambit::worth);
        edge("Returns the worth of all pieces of a side, found piece by piece.", "no piece, one and eight", () -> {
            same("no piece", new BrackenGambit().worth(0), 0);
            same("one", board("0Pf6:3").worth(0), 5);
            same("eight", board(ALL_WORTHS).worth(0), 7 * 13 + 23);
        });
        section("Promise 33");
        worths(BrackenGambit::worthByAccount);
        account();
        section("Promise 34");
        captured();
        section("Promise 35");
        worthShare();
        section("Promise 36");
        historySize();
    }

    private static void ofSide(BiConsumer<BrackenGambit, Integer> query) {
        edge("Throws `IndexOutOfBoundsException` if there is no such side", "no such side", () -> {
            BrackenGambit game = board("0Pa1:0 1Pf6:0");
            for (int side : NO_SIDES) {
                refused("side " + side, game, Check.INDEX, () -> {
                    query.accept(game, side);
                    return "an answer";
                });
            }
        });
    }

    /** What is the same of worth and worthByAccount. */
    private static void worths(ToIntBiFunction<BrackenGambit, Integer> query) {
        ofSide(query::applyAsInt);
        edge("- `side`: 0 or 1", "each side", () -> {
            BrackenGambit game = board("0Pa1:0 1Pf6:3");
            same("side 0", query.applyAsInt(game, 0), 1);
            same("side 1", query.applyAsInt(game, 1), 5);
        });
        edge("Returns the sum.", "nothing, and the most there can be", () -> {
            same("nothing", query.applyAsInt(new BrackenGambit(), 0), 0);
            same("the most", query.applyAsInt(board(ALL_WORTHS), 0), 7 * 13 + 23);
            same("nothing of the other side", query.applyAsInt(board(ALL_WORTHS), 1), 0);
        });
        edge("Returns the sum.", "after the last piece is captured", () -> {
            BrackenGambit game = started("0La1:0 1La2:24");
            moves(game, "a1a2");
            same("of side 0", query.applyAsInt(game, 0), 17);
            same("of side 1", query.applyAsInt(game, 1), 0);
        });
    }

    private static void account() {
        String sentence = "Returns the same worth, found by account: the worth of what was put and taken away, "
                + "minus what was captured, plus what was learnt.";
        edge(sentence, "put and taken away", () -> {
            BrackenGambit game = board("0Pa1:3 0Lb1:0 1Pf6:24");
            same("put", game.worthByAccount(0), 5 + 11);
            game.takeAway(at("b1"));
            same("a leader taken away", game.worthByAccount(0), 5);
            game.takeAway(at("a1"));
            same("all taken away", game.worthByAccount(0), 0);
            same("of the other side", game.worthByAccount(1), 6);
        });
        edge(sentence, "captured by each side", () -> {
            BrackenGambit game = started("0La1:0 0Pf5:24 1Pa2:0 1Lf6:0");
            moves(game, "a1a2");
            same("a piece of side 1", game.worthByAccount(1), 11);
            moves(game, "f6f5");
            same("a piece of side 0", game.worthByAccount(0), 11);
        });
        edge(sentence, "learnt all, some and nothing", () -> {
            String[] kinds = {"1234", "01", "0"};
            int[] due = {11 + 12, 11 + 1, 11};
            for (int i = 0; i < kinds.length; i++) {
                BrackenGambit game = started("0La1:0 1Pa2:" + kinds[i] + " 1Lf6:0");
                moves(game, "a1a2");
                same("from " + kinds[i], game.worthByAccount(0), due[i]);
                same("as piece by piece", game.worth(0), due[i]);
            }
        });
        edge(sentence, "a leader's 10 is not learnt", () -> {
            BrackenGambit game = started("0La1:0 0Pb2:0 1La2:0");
            moves(game, "b2a2");
            same("of the capturing side", game.worthByAccount(0), 12);
            same("as piece by piece", game.worth(0), 12);
        });
        edge(sentence, "put, captured and undone", () -> {
            BrackenGambit game = started("0La1:0 1Pa2:24 1Lf6:0");
            moves(game, "a1a2");
            game.undo();
            same("side 0", game.worthByAccount(0), 11);
            same("side 1", game.worthByAccount(1), 17);
        });
    }

    private static void captured() {
        ofSide((game, side) -> game.captured(side));
        edge("Returns the worth of all pieces that a side has captured.", "none, one and two", () -> {
            BrackenGambit game = started("0La1:0 1Pa2:3 1Pa3:24 1Lf6:0");
            same("none", game.captured(0), 0);
            moves(game, "a1a2");
            same("one", game.captured(0), 5);
            moves(game, "f6e6 a2a3");
            same("two", game.captured(0), 11);
            game.undo();
            same("one undone", game.captured(0), 5);
        });
        edge("Returns the worth of all pieces that a side has captured.", "taken away is not captured", () -> {
            BrackenGambit game = board("0Pa1:3 1Pa2:3");
            game.takeAway(0);
            same("by side 0", game.captured(0), 0);
            same("by side 1", game.captured(1), 0);
        });
        edge("- `side`: 0 or 1", "each side", () -> {
            BrackenGambit game = started("0La1:0 0Pf5:24 1Pa2:0 1Lf6:0");
            moves(game, "a1a2 f6f5");
            same("by side 0", game.captured(0), 1);
            same("by side 1", game.captured(1), 6);
        });
        String sum = "Returns the sum of their worths when they were captured.";
        edge(sum, "a piece that had learnt before", () -> {
            BrackenGambit game = started("0La1:0 0Pe5:0 1Pe6:3 1Lf6:0");
            moves(game, "e5e6 f6e6");
            same("by side 1", game.captured(1), 6);
        });
        edge(sum, "a leader", () -> {
            BrackenGambit game = started("0La1:0 1La2:01234");
            moves(game, "a1a2");
            same("with its 10", game.captured(0), 23);
        });
    }

    private static void worthShare() {
        ofSide((game, side) -> game.worthShare(side));
        String sentence = "Returns its worth, converted to double, divided by the worth of both sides; "
                + "0.0 without pieces.";
        edge(sentence, "without pieces", () -> {
            BrackenGambit game = new BrackenGambit();
            same("side 0", game.worthShare(0), 0.0);
            same("side 1", game.worthShare(1), 0.0);
            game.putPiece(0, 0, 1);
            game.takeAway(0);
            same("taken away", game.worthShare(0), 0.0);
        });
        edge(sentence, "all pieces of one side", () -> {
            BrackenGambit game = board("1Pa1:0");
            same("none of its own", game.worthShare(0), 0.0);
            same("all of them", game.worthShare(1), 1.0);
        });
        edge(sentence, "a part of all worths", () -> {
            BrackenGambit game = board("0Pa1:0 1Pf6:01 1Le6:0");
            same("side 0", game.worthShare(0), 1.0 / 14.0);
            same("side 1", game.worthShare(1), 13.0 / 14.0);
        });
        edge("Returns the share of a side in all worths.", "after a capture", () -> {
            BrackenGambit game = started("0La1:0 1Pa2:24 1Lf6:0");
            same("before", game.worthShare(0), 11.0 / 28.0);
            moves(game, "a1a2");
            same("after", game.worthShare(0), 17.0 / 28.0);
        });
        edge("- `side`: 0 or 1", "each side", () -> {
            BrackenGambit game = board("0Pa1:0 1Pf6:2");
            same("side 0", game.worthShare(0), 0.25);
            same("side 1", game.worthShare(1), 0.75);
        });
    }

    private static void historySize() {
        edge("Returns the number of states in the history.", "each kind of modification", () -> {
            BrackenGambit game = new BrackenGambit();
            game.putLeader(0, 0, 1);
            same("putLeader", game.historySize(), 1);
            game.putPiece(0, 7, 1);
            same("putPiece", game.historySize(), 2);
            game.takeAway(7);
            same("takeAway", game.historySize(), 3);
            game.putLeader(1, 35, 1);
            game.undo();
            game.undo();
            game.undo();
            same("undo", game.historySize(), 1);
            game.putLeader(1, 35, 1);
            game.start();
            same("start", game.historySize(), 3);
            game.move(0, 1);
            same("move", game.historySize(), 4);
            Check.type(game, "f6e6");
            game.play();
            same("play", game.historySize(), 5);
        });
        edge("Returns the number.", "none, five and no more", () -> {
            same("none", new BrackenGambit().historySize(), 0);
            for (int pieces = 1; pieces <= 8; pieces++) {
                same(pieces + " modifications", piecesOf(0, pieces).historySize(), Math.min(pieces, 5));
            }
        });
        edge("Returns the number.", "undone to none", () -> {
            BrackenGambit game = board("0Pa1:0");
            game.undo();
            same("none", game.historySize(), 0);
        });
    }
}
