import java.util.function.BiConsumer;

/** The edges that the promises 20 to 26 name: reach, moveCount, guards (two ways), guarded, exchange, weakest. */
final class GuardEdges extends Edges {
    private static final String NO_SIDE = "Throws `IndexOutOfBoundsException` if there is no such side";
    private static final String NO_SQUARE = "Throws `IndexOutOfBoundsException` if there is no such square";
    private static final String EMPTY = "Throws `NoSuchElementException` if the square is empty";

    /** guards or guardsByLooking, which must answer the same. */
    private interface Guards {
        int count(BrackenGambit game, int side, int square);
    }

    static void run() {
        section("Promise 20");
        reach();
        ofSquare((game, square) -> game.reach(square));
        section("Promise 21");
        moveCount();
        ofSide((game, side) -> game.moveCount(side));
        section("Promise 22");
        guards(BrackenGambit::guards);
        edge("found by going along the steps of all its pieces", "eight pieces",
                () -> eightGuards(BrackenGambit::guards));
        section("Promise 23");
        guards(BrackenGambit::guardsByLooking);
        edge("found by looking from the square back along all kinds of steps", "all kinds",
                () -> eightGuards(BrackenGambit::guardsByLooking));
        edge("Returns the same number", "each square of a full board", GuardEdges::sameNumbers);
        section("Promise 24");
        guarded();
        ofSide((game, side) -> game.guarded(side));
        section("Promise 25");
        exchange();
        ofSquare((game, square) -> game.exchange(square));
        section("Promise 26");
        weakest();
        noWeakest();
    }

    private static void ofSquare(BiConsumer<BrackenGambit, Integer> query) {
        edge(NO_SQUARE, "no such square", () -> {
            BrackenGambit game = board("0Pa1:0 1Pf6:0");
            for (int square : NO_SQUARES) {
                refused("square " + square, game, Check.INDEX, () -> answered(query, game, square));
            }
        });
        edge(EMPTY, "an empty square", () -> {
            for (int square = 0; square < 36; square++) {
                BrackenGambit game = new BrackenGambit();
                int empty = square;
                refused("square " + empty, game, Check.NO_ELEMENT, () -> answered(query, game, empty));
            }
        });
        edge(EMPTY, "an empty square that a side guards", () -> {
            BrackenGambit game = board("0Pa1:0 1Pf6:0");
            refused("beside a piece", game, Check.NO_ELEMENT, () -> answered(query, game, 1));
        });
    }

    private static void ofSide(BiConsumer<BrackenGambit, Integer> query) {
        edge(NO_SIDE, "no such side", () -> {
            BrackenGambit game = board("0Pa1:0 1Pf6:0");
            for (int side : NO_SIDES) {
                refused("side " + side, game, Check.INDEX, () -> answered(query, game, side));
            }
        });
    }

    private static Object answered(BiConsumer<BrackenGambit, Integer> query, BrackenGambit game, int number) {
        query.accept(game, number);
        return "an answer";
    }

    private static long reachOf(String pieces) {
        return board(pieces).reach(at(pieces.substring(2)));
    }

    private static void reach() {
        String sentence = "Returns the squares to which the piece on a square could move, whichever side is to move.";
        edge(sentence, "own pieces and the other side's", () -> {
            same("a piece hemmed in", reachOf("0Pa1:0 0Pa2:1 0Pb1:1"), 0L);
            same("a piece beset", reachOf("0Pa1:0 1Pa2:1 1Pb1:1"), Check.squares("a2", "b1"));
            same("not its own square", reachOf("0Pa1:01234") & 1L, 0L);
        });
        edge(sentence, "side 0 or side 1 to move, or none", () -> {
            BrackenGambit game = board("0La1:0 1Lf6:0 0Pc3:0");
            same("before the start", game.reach(at("f6")), Check.squares("f5", "e6"));
            game.start();
            same("side 0 to move", game.reach(at("f6")), Check.squares("f5", "e6"));
            moves(game, "c3c4");
            same("side 1 to move", game.reach(at("a1")), Check.squares("a2", "b1"));
            BrackenGambit over = wonByCapture();
            same("after the end, the winner", over.reach(at("f1")), Check.squares("e1", "f2"));
            same("after the end, the other", over.reach(at("f6")), Check.squares("e6", "f5"));
        });
        edge("- `square`: 0 to 35", "from each square", () -> {
            for (int square = 0; square < 36; square++) {
                BrackenGambit game = new BrackenGambit();
                game.putPiece(0, square, 8);
                same("from " + square, Long.bitCount(game.reach(square)), 10);
            }
        });
        edge("Returns a bit set, bit k for the square k.", "the first square and the last", () -> {
            same("bit 0", reachOf("0Pb1:0") & 3L, 1L);
            same("bit 35", reachOf("0Pe6:0") >> 34, 2L);
            same("bit 31 and bit 32", reachOf("1Pb5:24") & 7L << 30, 5L << 30);
            same("none beyond", reachOf("0Pf5:01234") >> 36, 0L);
        });
    }

    private static void moveCount() {
        String whichever = "whether the game is started or not, and whichever side is to move";
        edge(whichever, "before, in and after the game", () -> {
            BrackenGambit game = board("0La1:0 1Lf6:1 0Pc3:0");
            same("before the start", game.moveCount(0) * 10 + game.moveCount(1), 61);
            game.start();
            same("side 0 to move", game.moveCount(0) * 10 + game.moveCount(1), 61);
            moves(game, "c3c4");
            same("side 1 to move", game.moveCount(0) * 10 + game.moveCount(1), 61);
            BrackenGambit over = wonByCapture();
            same("after the end", over.moveCount(0) * 10 + over.moveCount(1), 52);
        });
        String pairs = "Returns the number of pairs of squares between which a piece of the side could move.";
        edge(pairs, "no pieces, and no way out", () -> {
            same("no pieces", new BrackenGambit().moveCount(0), 0);
            same("none of side 1", board("0Pa1:0").moveCount(1), 0);
            same("one way out", board("0Pa1:1").moveCount(0), 1);
            same("own pieces in the way", board("0Pa1:0 0Pa2:1 0Pb1:1").moveCount(0), 1 + 1);
        });
        edge(pairs, "a square that two kinds of steps lead to", () -> {
            same("kinds 0 and 3", board("0Pa1:03").moveCount(0), 10);
            same("kinds 1 and 4", board("0Pa1:14").moveCount(0), 5);
        });
        edge(pairs, "a square that two pieces can move to", () ->
            same("each a pair of its own", board("0Pa1:0 0Pb2:0").moveCount(0), 2 + 4));
        edge("- `side`: 0 or 1", "each side", () -> {
            BrackenGambit game = board("0Pa1:0 1Pf6:1");
            same("side 0", game.moveCount(0), 2);
            same("side 1", game.moveCount(1), 1);
        });
    }

    private static void guards(Guards guards) {
        edge("- `side`: 0 or 1", "each side", () -> {
            BrackenGambit game = board("0Pa1:0 1Pc1:0 1Pb2:0");
            same("side 0", guards.count(game, 0, at("b1")), 1);
            same("side 1", guards.count(game, 1, at("b1")), 2);
        });
        edge("- `square`: 0 to 35", "each square", () -> {
            for (int square = 0; square < 36; square++) {
                BrackenGambit game = new BrackenGambit();
                game.putPiece(0, square < 6 ? square + 6 : square - 6, 1);
                same("square " + square, guards.count(game, 0, square), 1);
            }
        });
        edge("Returns the number.", "none, and a guard with two kinds of steps", () -> {
            same("no pieces", guards.count(new BrackenGambit(), 0, 0), 0);
            same("none of side 1", guards.count(board("0Pa1:0"), 1, at("a2")), 0);
            same("counted once", guards.count(board("0Pa1:03"), 0, at("a2")), 1);
            same("counted once, diagonal", guards.count(board("0Pa1:14"), 0, at("b2")), 1);
        });
        edge("Returns the number.", "one behind the other", () -> {
            same("nothing between", guards.count(board("0Pa1:3"), 0, at("a6")), 1);
            same("the nearer one alone", guards.count(board("0Pa1:3 0Pa2:3"), 0, at("a6")), 1);
            same("behind the other side's", guards.count(board("0Pa1:3 1Pa2:0"), 0, at("a6")), 0);
            same("a leap from behind", guards.count(board("0Pa1:2 0Pa2:2 0Pb2:2"), 0, at("b3")), 1);
            same("on the nearer one", guards.count(board("0Pa1:3 0Pa2:3"), 0, at("a2")), 1);
            same("not on its own square", guards.count(board("0Pa1:01234"), 0, 0), 0);
        });
        String no = "Throws `IndexOutOfBoundsException` if there is no such side or square";
        edge(no, "no such side", () -> {
            BrackenGambit game = board("0Pa1:0 1Pf6:0");
            for (int side : NO_SIDES) {
                refused("side " + side, game, Check.INDEX, () -> guards.count(game, side, 0));
            }
        });
        edge(no, "no such square", () -> {
            BrackenGambit game = board("0Pa1:0 1Pf6:0");
            for (int square : NO_SQUARES) {
                refused("square " + square, game, Check.INDEX, () -> guards.count(game, 0, square));
            }
        });
    }

    private static void eightGuards(Guards guards) {
        String eight = "0Pc4:0 0Pd4:1 0Pe4:2 0Pa3:3 0Pc1:3 0Pf3:3 0Pb2:4 0Pe1:4";
        same("all of them", guards.count(board(eight), 0, at("c3")), 8);
        same("none of the other side", guards.count(board(eight), 1, at("c3")), 0);
    }

    private static void sameNumbers() {
        BrackenGambit game = board("0La1:0 0Pc2:1 0Pe1:2 0Pb3:3 0Pd4:4 0Pf3:03 0Pa5:124 0Pc6:01234 "
                + "1Lf6:01 1Pd5:4 1Pb4:3 1Pe4:2 1Pa3:1 1Pc1:0 1Pf1:34 1Pd2:01234");
        for (int square = 0; square < 36; square++) {
            for (int side = 0; side < 2; side++) {
                same("side " + side + " on " + square,
                        game.guardsByLooking(side, square), game.guards(side, square));
            }
        }
    }

    private static void guarded() {
        String sentence = "Returns the squares that a side guards.";
        edge(sentence, "own squares, the other side's and empty ones", () -> {
            BrackenGambit game = board("0Pa1:0 0Pa2:4 1Pb1:4");
            same("side 0", game.guarded(0), Check.squares("a2", "b1", "b3", "c4", "d5", "e6"));
            same("side 1", game.guarded(1), Check.squares("a2", "c2", "d3", "e4", "f5"));
        });
        edge(sentence, "no pieces, and a piece alone", () -> {
            same("no pieces", new BrackenGambit().guarded(0), 0L);
            same("none of side 1", board("0Pa1:0").guarded(1), 0L);
            same("not its own square", board("0Pa1:0").guarded(0), Check.squares("a2", "b1"));
        });
        edge("- `side`: 0 or 1", "each side", () -> {
            BrackenGambit game = board("0Pa1:1 1Pf6:1");
            same("side 0", game.guarded(0), Check.squares("b2"));
            same("side 1", game.guarded(1), Check.squares("e5"));
        });
        edge("Returns a bit set.", "the first square and the last", () -> {
            same("bit 0", board("0Pb2:1").guarded(0) & 1L, 1L);
            same("bit 35 and none beyond", board("0Pe6:0").guarded(0) >> 35, 1L);
        });
    }

    private static void exchange() {
        String sentence = "Returns what the exchange on a square is worth for the side that could capture there.";
        edge(sentence, "for the side whose piece it is not", () -> {
            BrackenGambit game = board("0Pa1:3 1Pa2:0");
            same("on side 0's", game.exchange(at("a1")), 5);
            same("on side 1's", game.exchange(at("a2")), 1);
        });
        edge(sentence, "whichever side is to move", () -> {
            BrackenGambit game = started("0La1:0 1Lf6:0 0Pc3:0 1Pc4:0");
            same("side 0 to move", game.exchange(at("c3")) * 10 + game.exchange(at("c4")), 11);
            moves(game, "a1b1");
            same("side 1 to move", game.exchange(at("c3")) * 10 + game.exchange(at("c4")), 11);
        });
        edge("- `square`: 0 to 35", "on each square", () -> {
            for (int square = 0; square < 36; square++) {
                BrackenGambit game = new BrackenGambit();
                game.putPiece(0, square, 8);
                game.putPiece(1, square < 6 ? square + 6 : square - 6, 1);
                same("on " + square, game.exchange(square), 5);
            }
        });
        edge("Returns the worth, 0 or more.", "nothing, one and the most", () -> {
            same("not guarded", board("0Pa1:0").exchange(0), 0);
            same("a loss", board("0Pa1:0 0Pb1:0 1Pa2:3").exchange(0), 0);
            same("one", board("0Pa1:0 1Pa2:0").exchange(0), 1);
            same("the most", board("0La1:01234 1Pa2:0").exchange(0), 23);
        });
        edge("Returns the worth, 0 or more.", "nothing is captured by asking", () -> {
            BrackenGambit game = board("0Pa1:0 0Pb1:0 1Pa2:0 1Pa3:3");
            String before = Check.lookAt(game);
            game.exchange(0);
            same("the same", Check.lookAt(game), before);
        });
    }

    private static void weakest() {
        edge("Returns the square with a piece of a side on which the exchange is worth the most for the other side.",
                "the most, not the first nor the last", () -> {
            same("in the middle", board("0Pa1:0 0Pc3:3 0Pe5:2 1Pa2:0 1Pc4:0 1Pe6:0").weakest(0), at("c3"));
            same("not the greatest worth", board("0Pa1:0 0Pc3:3 1Pa2:0 1Pf6:0").weakest(0), at("a1"));
        });
        edge("Returns the square; of several the lowest.", "several with the most", () -> {
            same("of two", board("0Pa1:0 0Pc3:3 0Pe5:3 1Pa2:0 1Pc4:0 1Pe6:0").weakest(0), at("c3"));
            same("of side 1", board("1Pa1:0 1Pc3:3 1Pe5:3 0Pa2:0 0Pc4:0 0Pe6:0").weakest(1), at("c3"));
        });
        edge("Returns the square; of several the lowest.", "the first square and the last", () -> {
            same("first", board("0Pa1:0 1Pa2:0").weakest(0), 0);
            same("last", board("0Pf6:0 1Pe6:0").weakest(0), 35);
        });
        edge("- `side`: 0 or 1", "each side", () -> {
            BrackenGambit game = board("0Pa1:0 1Pa2:0");
            same("side 0", game.weakest(0), at("a1"));
            same("side 1", game.weakest(1), at("a2"));
        });
    }

    private static void noWeakest() {
        ofSide((game, side) -> game.weakest(side));
        String none = "Throws `NoSuchElementException` if no exchange is worth more than 0";
        edge(none, "no pieces, or none that is guarded", () -> {
            BrackenGambit fresh = new BrackenGambit();
            refused("no pieces", fresh, Check.NO_ELEMENT, () -> fresh.weakest(0));
            BrackenGambit game = board("0Pa1:0 1Pf6:0");
            refused("none guarded", game, Check.NO_ELEMENT, () -> game.weakest(0));
        });
        edge(none, "an exchange worth 0 and one worth 1", () -> {
            BrackenGambit game = board("0Pa1:0 0Pb1:0 1Pa2:0");
            refused("worth 0", game, Check.NO_ELEMENT, () -> game.weakest(0));
            game.takeAway(at("b1"));
            same("worth 1", game.weakest(0), at("a1"));
        });
    }
}
