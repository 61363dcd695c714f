/** The edges that the document's terms name of the board, the pieces and their kinds of steps. */
final class TermsBoardEdges extends Edges {
    private static final int[] KIND_WORTHS = {1, 1, 3, 5, 3};

    static void run() {
        section("Terms");
        squares();
        pieces();
        sets();
        nearKinds();
        farKinds();
        worths();
    }

    private static long reachOf(String pieces) {
        return board(pieces).reach(at(pieces.substring(2)));
    }

    private static void squares() {
        String board = "The board has 6 rows and 6 columns, numbered from 0 from the bottom and from the left";
        String number = "the square in row r and column c has the number 6 * r + c";
        edge(board, "the corners of the board", () -> {
            String[] corners = {"a1", "f1", "a6", "f6"};
            String[][] straight = {{"a2", "b1"}, {"e1", "f2"}, {"a5", "b6"}, {"e6", "f5"}};
            String[] diagonal = {"b2", "e2", "b5", "e5"};
            String[][] leaps = {{"b3", "c2"}, {"e3", "d2"}, {"b4", "c5"}, {"e4", "d5"}};
            for (int i = 0; i < corners.length; i++) {
                same(corners[i] + " straight", reachOf("0P" + corners[i] + ":0"), Check.squares(straight[i]));
                same(corners[i] + " diagonal", reachOf("0P" + corners[i] + ":1"), Check.squares(diagonal[i]));
                same(corners[i] + " leaps", reachOf("0P" + corners[i] + ":2"), Check.squares(leaps[i]));
            }
        });
        edge(number, "a row's last square and the next row's first one", () -> {
            for (int row = 0; row < 5; row++) {
                BrackenGambit game = new BrackenGambit();
                int last = 6 * row + 5;
                game.putPiece(0, last, 25);
                same("from the last square", game.reach(last) >> last + 1 & 1L, 0L);
                game.takeAway(last);
                game.putPiece(0, last + 1, 25);
                same("from the first square", game.reach(last + 1) >> last & 1L, 0L);
            }
        });
        edge(number, "each kind of steps from each square", () -> {
            for (int square = 0; square < 36; square++) {
                for (int kind = 0; kind < 5; kind++) {
                    BrackenGambit game = new BrackenGambit();
                    game.putPiece(1, square, 1 << kind);
                    same("kind " + kind + " from " + square, game.reach(square), onEmptyBoard(square, kind));
                }
            }
        });
    }

    private static long onEmptyBoard(int square, int kind) {
        long found = 0L;
        for (int to = 0; to < 36; to++) {
            int up = Math.abs(to / 6 - square / 6);
            int right = Math.abs(to % 6 - square % 6);
            boolean[] leads = {up + right == 1, up == 1 && right == 1, up * right == 2,
                (up == 0) != (right == 0), up == right && up > 0};
            found |= leads[kind] ? 1L << to : 0L;
        }
        return found;
    }

    private static void pieces() {
        edge("There are two sides, 0 and 1.", "no side -1 and no side 2", () -> {
            BrackenGambit game = board("0Pa1:0 1Pf6:0");
            same("side 0", game.pieces(0), 1);
            same("side 1", game.pieces(1), 1);
            refused("side -1", game, Check.INDEX, () -> game.pieces(-1));
            refused("side 2", game, Check.INDEX, () -> game.pieces(2));
        });
        edge("Each side has at most 8 pieces.", "the eighth and the ninth piece", () -> {
            for (int side = 0; side < 2; side++) {
                int of = side;
                BrackenGambit game = piecesOf(of, 7);
                same("the eighth", game.putPiece(of, 7, 1), 8);
                refused("a ninth", game, Check.STATE, () -> game.putPiece(of, 8, 1));
                refused("a leader as the ninth", game, Check.STATE, () -> game.putLeader(of, 8, 1));
            }
        });
        edge("Each side has at most 8 pieces.", "8 pieces of each side, leaders among them", () -> {
            BrackenGambit game = piecesOf(0, 7);
            same("a leader as the eighth", game.putLeader(0, 7, 1), 8);
            for (int square = 28; square < 35; square++) {
                game.putPiece(1, square, 1);
            }
            same("of the other side too", game.putLeader(1, 35, 1), 8);
            refused("no more of side 0", game, Check.STATE, () -> game.putPiece(0, 20, 1));
            refused("no more of side 1", game, Check.STATE, () -> game.putPiece(1, 20, 1));
        });
        edge("A piece stands on a square of its own", "a square where a piece stands", () -> {
            BrackenGambit game = board("0Pc3:0 1Ld4:1");
            refused("on its own side's", game, Check.STATE, () -> game.putPiece(0, at("c3"), 1));
            refused("on the other side's", game, Check.STATE, () -> game.putPiece(1, at("c3"), 1));
            refused("a leader on a piece", game, Check.STATE, () -> game.putLeader(0, at("c3"), 1));
            refused("a piece on a leader", game, Check.STATE, () -> game.putPiece(0, at("d4"), 1));
        });
        edge("each side has at most one leader", "a second leader", () -> {
            BrackenGambit game = board("0La1:0");
            refused("of side 0", game, Check.STATE, () -> game.putLeader(0, at("b1"), 1));
            same("the first one of side 1", game.putLeader(1, at("f6"), 1), 1);
            refused("of side 1", game, Check.STATE, () -> game.putLeader(1, at("e6"), 1));
        });
    }

    private static void sets() {
        String sentence = "A set of steps is a bit set, with bit k for the kind k; a piece knows at least one kind.";
        edge(sentence, "each kind alone", () -> {
            for (int kind = 0; kind < 5; kind++) {
                BrackenGambit game = new BrackenGambit();
                game.putPiece(0, 0, 1 << kind);
                for (int other = 0; other < 5; other++) {
                    same("set of " + kind + " knows " + other, game.knowing(0, other), other == kind ? 1 : 0);
                }
            }
        });
        edge(sentence, "all kinds, and none beyond the last one", () -> {
            BrackenGambit game = board("0Pa1:01234");
            same("all kinds", game.stepsAt(0), 31);
            refused("a sixth kind", game, Check.ARGUMENT, () -> game.putPiece(0, 1, 32));
            refused("a sixth kind beside others", game, Check.ARGUMENT, () -> game.putPiece(0, 1, 33));
        });
        edge(sentence, "no kind at all", () -> {
            BrackenGambit game = new BrackenGambit();
            refused("a piece", game, Check.ARGUMENT, () -> game.putPiece(0, 0, 0));
            refused("a leader", game, Check.ARGUMENT, () -> game.putLeader(0, 0, 0));
        });
    }

    private static void nearKinds() {
        edge("one square up, down, to the left or to the right (worth 1)", "one square straight, not two", () -> {
            same("on an empty board", reachOf("0Pc3:0"), Check.squares("c2", "c4", "b3", "d3"));
            same("worth", board("0Pc3:0").worthAt(at("c3")), 1);
        });
        edge("one square in a diagonal direction (worth 1)", "one square diagonal, not two", () -> {
            same("on an empty board", reachOf("0Pc3:1"), Check.squares("b2", "b4", "d2", "d4"));
            same("worth", board("0Pc3:1").worthAt(at("c3")), 1);
        });
        String leap = "a leap by two squares in one of the directions up, down, left, right "
                + "and one square at a right angle to it, over whatever stands between (worth 3)";
        long leaps = Check.squares("a2", "a4", "b1", "b5", "d1", "d5", "e2", "e4");
        edge(leap, "a leap over nothing", () -> {
            same("on an empty board", reachOf("0Pc3:2"), leaps);
            same("worth", board("0Pc3:2").worthAt(at("c3")), 3);
        });
        edge(leap, "a leap over pieces all round", () -> {
            same("over its own side's and the other side's",
                    reachOf("0Pc3:2 0Pb2:0 1Pb3:0 0Pb4:0 1Pc4:0 0Pd4:0 1Pd3:0 0Pd2:0 1Pc2:0"), leaps);
            same("onto an own piece there is none", reachOf("0Pc3:2 0Pa2:0 1Pe4:0"), leaps & ~Check.squares("a2"));
        });
    }

    private static void farKinds() {
        String straight = "any number of squares up, down, to the left or to the right, over empty squares (worth 5)";
        edge(straight, "straight from one edge to the other", () -> {
            same("five squares", reachOf("0Pa1:3"),
                    Check.squares("a2", "a3", "a4", "a5", "a6", "b1", "c1", "d1", "e1", "f1"));
            same("worth", board("0Pa1:3").worthAt(0), 5);
        });
        edge(straight, "straight up to a piece", () -> {
            same("with the other side's, without its own", reachOf("0Pc3:3 1Pc5:0 0Pc1:0 1Pb3:0 0Pd3:0"),
                    Check.squares("c4", "c5", "c2", "b3"));
        });
        String diagonal = "any number of squares in a diagonal direction, over empty squares (worth 3)";
        edge(diagonal, "diagonal from one corner to the other", () -> {
            same("five squares", reachOf("0Pf6:4"), Check.squares("e5", "d4", "c3", "b2", "a1"));
            same("worth", board("0Pf6:4").worthAt(35), 3);
        });
        edge(diagonal, "diagonal up to a piece", () -> {
            same("with the other side's, without its own", reachOf("0Pc3:4 1Pe5:0 0Pa1:0 1Pb4:0 0Pd2:0"),
                    Check.squares("d4", "e5", "b2", "b4"));
        });
    }

    private static void worths() {
        String sentence = "The worth of a piece is the sum of the worths of its kinds, plus 10 for a leader.";
        edge(sentence, "from the least set to the greatest", () -> {
            for (int steps = 1; steps < 32; steps++) {
                int due = 0;
                for (int kind = 0; kind < 5; kind++) {
                    due += (steps >> kind & 1) * KIND_WORTHS[kind];
                }
                BrackenGambit game = new BrackenGambit();
                game.putPiece(0, 0, steps);
                same("of the set " + steps, game.worthAt(0), due);
            }
        });
        edge(sentence, "the least and the greatest leader", () -> {
            same("least", board("0La1:1").worthAt(0), 11);
            same("greatest", board("1Lf6:01234").worthAt(35), 23);
        });
    }
}
