import java.util.function.ToIntBiFunction;

/** The edges that the promises 14 to 19 name: pieces, sideAt, stepsAt, worthAt, leaderOf, knowing. */
final class PieceEdges extends Edges {
    private static final String NO_SIDE = "Throws `IndexOutOfBoundsException` if there is no such side";
    private static final String NO_SQUARE = "Throws `IndexOutOfBoundsException` if there is no such square";
    private static final String EMPTY = "Throws `NoSuchElementException` if the square is empty";

    static void run() {
        section("Promise 14");
        pieces();
        section("Promise 15");
        onSquare(BrackenGambit::sideAt);
        sideAt();
        section("Promise 16");
        onSquare(BrackenGambit::stepsAt);
        stepsAt();
        section("Promise 17");
        onSquare(BrackenGambit::worthAt);
        worthAt();
        section("Promise 18");
        leaderOf();
        section("Promise 19");
        knowing();
        knowingWrongly();
    }

    private static void pieces() {
        edge("Returns the number of pieces of a side.", "captured, taken away and put", () -> {
            BrackenGambit game = board("0La1:0 0Pb2:0 1Pa2:0 1Lf6:0");
            game.takeAway(at("b2"));
            same("taken away", game.pieces(0), 1);
            game.start();
            moves(game, "a1a2");
            same("the capturing side's", game.pieces(0), 1);
            same("captured", game.pieces(1), 1);
        });
        edge("Returns the number.", "no piece and eight", () -> {
            same("no piece", new BrackenGambit().pieces(0), 0);
            same("eight", piecesOf(0, 8).pieces(0), 8);
            same("none of the other side", piecesOf(0, 8).pieces(1), 0);
            BrackenGambit last = started("0La1:0 1La2:0");
            moves(last, "a1a2");
            same("the last one is captured", last.pieces(1), 0);
        });
        edge("- `side`: 0 or 1", "each side", () -> {
            BrackenGambit game = board("0Pa1:0 1Pf6:0 1Pe6:0");
            same("side 0", game.pieces(0), 1);
            same("side 1", game.pieces(1), 2);
        });
        edge(NO_SIDE, "no such side", () -> {
            BrackenGambit game = board("0Pa1:0 1Pf6:0");
            for (int side : NO_SIDES) {
                refused("side " + side, game, Check.INDEX, () -> game.pieces(side));
            }
        });
    }

    /** What is the same of sideAt, stepsAt and worthAt. */
    private static void onSquare(ToIntBiFunction<BrackenGambit, Integer> query) {
        edge("- `square`: 0 to 35", "each square", () -> {
            for (int square = 0; square < 36; square++) {
                BrackenGambit game = new BrackenGambit();
                game.putPiece(1, square, 1);
                same("on " + square, query.applyAsInt(game, square), 1);
            }
        });
        edge(NO_SQUARE, "no such square", () -> {
            BrackenGambit game = board("0Pa1:0 1Pf6:0");
            for (int square : NO_SQUARES) {
                refused("square " + square, game, Check.INDEX, () -> query.applyAsInt(game, square));
            }
        });
        edge(EMPTY, "an empty square", () -> {
            for (int square = 0; square < 36; square++) {
                BrackenGambit game = new BrackenGambit();
                int empty = square;
                refused("square " + empty, game, Check.NO_ELEMENT, () -> query.applyAsInt(game, empty));
            }
        });
        edge(EMPTY, "a square that was left or taken away from", () -> {
            BrackenGambit game = board("0La1:0 1Lf6:0 0Pc3:0");
            game.takeAway(at("c3"));
            refused("taken away", game, Check.NO_ELEMENT, () -> query.applyAsInt(game, at("c3")));
            game.start();
            moves(game, "a1b1");
            refused("left", game, Check.NO_ELEMENT, () -> query.applyAsInt(game, at("a1")));
        });
    }

    private static void sideAt() {
        edge("Returns the side of the piece on a square.", "before and after a capture", () -> {
            BrackenGambit game = started("0La1:0 1Pa2:0 1Lf6:0");
            same("before", game.sideAt(at("a2")), 1);
            moves(game, "a1a2");
            same("after", game.sideAt(at("a2")), 0);
        });
        edge("Returns 0 or 1.", "each side, leader or piece, least steps or all", () -> {
            BrackenGambit game = board("0La1:01234 0Pb1:0 1Lc1:01234 1Pd1:0");
            int[] due = {0, 0, 1, 1};
            for (int square = 0; square < 4; square++) {
                same("on " + square, game.sideAt(square), due[square]);
            }
        });
    }

    private static void stepsAt() {
        edge("Returns the steps of the piece on a square.", "before and after a capture", () -> {
            BrackenGambit game = started("0La1:0 1Pa2:4 1Lf6:0");
            same("before", game.stepsAt(at("a2")), 16);
            moves(game, "a1a2");
            same("after", game.stepsAt(at("a2")), 17);
            game.undo();
            same("undone", game.stepsAt(at("a1")), 1);
        });
        edge("Returns a bit set.", "the least and the greatest, leader or not", () -> {
            BrackenGambit game = board("0La1:01234 0Pb1:0 1Lc1:0 1Pd1:01234");
            int[] due = {31, 1, 1, 31};
            for (int square = 0; square < 4; square++) {
                same("on " + square, game.stepsAt(square), due[square]);
            }
        });
    }

    private static void worthAt() {
        edge("Returns the worth of the piece on a square.", "before and after a capture", () -> {
            BrackenGambit game = started("0La1:0 1Pa2:03 1Lf6:0");
            same("before", game.worthAt(at("a2")), 6);
            moves(game, "a1a2");
            same("after", game.worthAt(at("a2")), 16);
        });
        edge("Returns the worth.", "the least and the greatest, leader or not", () -> {
            BrackenGambit game = board("0La1:01234 0Pb1:0 1Lc1:1 1Pd1:01234");
            int[] due = {23, 1, 11, 13};
            for (int square = 0; square < 4; square++) {
                same("on " + square, game.worthAt(square), due[square]);
            }
        });
    }

    private static void leaderOf() {
        edge("Returns the square of the leader of a side.", "moved, captured, put again", () -> {
            BrackenGambit game = board("0La1:0 1Lf6:0");
            game.takeAway(0);
            game.putLeader(0, 3, 1);
            same("put again", game.leaderOf(0), 3);
            game.start();
            moves(game, "d1d2");
            same("moved", game.leaderOf(0), at("d2"));
        });
        edge("Returns the square.", "the first and the last square", () -> {
            same("first", board("0La1:0").leaderOf(0), 0);
            same("last", board("0Lf6:0").leaderOf(0), 35);
        });
        edge("- `side`: 0 or 1", "each side", () -> {
            BrackenGambit game = board("0Lb1:0 1Le6:0");
            same("side 0", game.leaderOf(0), 1);
            same("side 1", game.leaderOf(1), 34);
        });
        edge(NO_SIDE, "no such side", () -> {
            BrackenGambit game = board("0La1:0 1Lf6:0");
            for (int side : NO_SIDES) {
                refused("side " + side, game, Check.INDEX, () -> game.leaderOf(side));
            }
        });
        String none = "Throws `NoSuchElementException` if it has none";
        edge(none, "no leader put", () -> {
            BrackenGambit game = board("0Pa1:01234 1Lf6:0");
            refused("pieces alone", game, Check.NO_ELEMENT, () -> game.leaderOf(0));
            BrackenGambit other = board("0La1:0");
            refused("no piece", other, Check.NO_ELEMENT, () -> other.leaderOf(1));
        });
        edge(none, "the leader taken away or captured", () -> {
            BrackenGambit game = board("0La1:0 0Pb1:0");
            game.takeAway(0);
            refused("taken away", game, Check.NO_ELEMENT, () -> game.leaderOf(0));
            BrackenGambit won = wonByCapture();
            refused("captured", won, Check.NO_ELEMENT, () -> won.leaderOf(1));
        });
        edge(none, "a piece that captured a leader is none", () -> {
            BrackenGambit game = started("0Lf6:0 0Pa1:0 1La2:0");
            moves(game, "a1a2");
            same("the old one leads", game.leaderOf(0), at("f6"));
            refused("none of the other side", game, Check.NO_ELEMENT, () -> game.leaderOf(1));
        });
    }

    private static void knowing() {
        edge("Returns how many pieces of a side know a kind of steps.", "learnt and captured", () -> {
            BrackenGambit game = started("0La1:0 1Pa2:24 1Lf6:0");
            same("before", game.knowing(1, 4), 1);
            moves(game, "a1a2");
            same("learnt", game.knowing(0, 4), 1);
            same("captured", game.knowing(1, 4), 0);
        });
        edge("Returns the number.", "none and all eight", () -> {
            BrackenGambit game = piecesOf(0, 8);
            same("all eight", game.knowing(0, 0), 8);
            same("none", game.knowing(0, 1), 0);
            same("none of the other side", game.knowing(1, 0), 0);
        });
        edge("- `side`: 0 or 1", "each side", () -> {
            BrackenGambit game = board("0Pa1:0 1Pf6:0 1Pe6:0");
            same("side 0", game.knowing(0, 0), 1);
            same("side 1", game.knowing(1, 0), 2);
        });
        edge("- `kind`: 0 to 4", "each kind", () -> {
            BrackenGambit game = board("0Pa1:01234 0Pb1:1234 0Pc1:234 0Pd1:34 0Pe1:4");
            for (int kind = 0; kind < 5; kind++) {
                same("kind " + kind, game.knowing(0, kind), kind + 1);
            }
        });
    }

    private static void knowingWrongly() {
        String sentence = "Throws `IndexOutOfBoundsException` if there is no such side or kind";
        edge(sentence, "no such side", () -> {
            BrackenGambit game = board("0La1:01234 1Lf6:01234");
            for (int side : NO_SIDES) {
                refused("side " + side, game, Check.INDEX, () -> game.knowing(side, 0));
            }
        });
        edge(sentence, "no such kind", () -> {
            BrackenGambit game = board("0La1:01234 1Lf6:01234");
            for (int kind : NO_KINDS) {
                refused("kind " + kind, game, Check.INDEX, () -> game.knowing(1, kind));
            }
        });
    }
}
