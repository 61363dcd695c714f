/** Promises 20 to 26: reach, moveCount, guards, guardsByLooking, guarded, exchange, weakest. */
public final class GuardsTest {
    private static final int[] NO_SIDES = {-1, 2, Integer.MAX_VALUE, Integer.MIN_VALUE};
    private static final int[] NO_SQUARES = {-1, 36, Integer.MAX_VALUE, Integer.MIN_VALUE};

    public static void main(String[] args) {
        promise20();
        promise20Kinds();
        promise21();
        promises22And23();
        promise24();
        promise25();
        promise25Leaders();
        promise25Choice();
        promise25Longest();
        promise26();
        wrongArguments();
        Check.finish();
    }

    private static int at(String name) {
        return Check.square(name);
    }

    private static void promise20() {
        BrackenGambit game = new BrackenGambit();
        game.putPiece(0, at("a1"), 8);
        game.putPiece(0, at("a3"), 1);
        game.putPiece(1, at("d1"), 16);
        Check.same("20: up to own, with the other side's", game.reach(at("a1")), Check.squares("a2", "b1", "c1", "d1"));
        Check.same("20: the other side's", game.reach(at("d1")), Check.squares("c2", "b3", "a4", "e2", "f3"));
        Check.same("20: own squares are none", game.reach(at("a3")), Check.squares("a2", "a4", "b3"));
        game.putPiece(1, at("b3"), 4);
        Check.same("20: blocked", game.reach(at("d1")), Check.squares("c2", "e2", "f3"));
        Check.same("20: leaps over", game.reach(at("b3")), Check.squares("a1", "c1", "d2", "d4", "a5", "c5"));
        Check.refused("20: empty", game, Check.NO_ELEMENT, () -> game.reach(at("a2")));
        BrackenGambit over = new BrackenGambit();
        over.putLeader(0, at("a1"), 1);
        over.putLeader(1, at("a2"), 2);
        over.start();
        Check.same("20: not to move", over.reach(at("a2")), Check.squares("b1", "b3"));
        over.move(at("a1"), at("a2"));
        Check.same("20: after the end", over.reach(at("a2")), Check.squares("a1", "a3", "b2", "b1", "b3"));
    }

    private static void promise20Kinds() {
        int[] sets = {1, 2, 4, 8, 16};
        String[][] corner = {{"a2", "b1"}, {"b2"}, {"b3", "c2"},
            {"a2", "a3", "a4", "a5", "a6", "b1", "c1", "d1", "e1", "f1"}, {"b2", "c3", "d4", "e5", "f6"}};
        String[][] edge = {{"f3", "f5", "e4"}, {"e3", "e5"}, {"e2", "e6", "d3", "d5"},
            {"f1", "f2", "f3", "f5", "f6", "a4", "b4", "c4", "d4", "e4"}, {"e5", "d6", "e3", "d2", "c1"}};
        long all = 0L;
        for (int i = 0; i < sets.length; i++) {
            BrackenGambit game = new BrackenGambit();
            game.putPiece(1, at("a1"), sets[i]);
            Check.same("20: corner, kind " + i, game.reach(at("a1")), Check.squares(corner[i]));
            game.takeAway(at("a1"));
            game.putPiece(0, at("f4"), sets[i]);
            Check.same("20: edge, kind " + i, game.reach(at("f4")), Check.squares(edge[i]));
            all |= Check.squares(edge[i]);
        }
        BrackenGambit game = new BrackenGambit();
        game.putLeader(1, at("f4"), 31);
        Check.same("20: all kinds", game.reach(at("f4")), all);
    }

    private static void promise21() {
        BrackenGambit game = new BrackenGambit();
        Check.same("21: none", game.moveCount(0), 0);
        game.putLeader(0, at("a1"), 1);
        game.putPiece(0, at("a2"), 9);
        game.putLeader(1, at("f6"), 3);
        game.putPiece(1, at("c2"), 2);
        Check.same("21: pairs of squares, each once", game.moveCount(0), 1 + 4 + 2);
        Check.same("21: the other side", game.moveCount(1), 3 + 4);
        game.start();
        Check.same("21: started", game.moveCount(1), 7);
        game.move(at("a2"), at("c2"));
        Check.same("21: after a capture", game.moveCount(0), 2 + 4 + 10);
        Check.same("21: the other side", game.moveCount(1), 3);
    }

    private static void promises22And23() {
        BrackenGambit game = new BrackenGambit();
        game.putLeader(0, at("c3"), 11);
        game.putPiece(0, at("c4"), 8);
        game.putPiece(0, at("a2"), 4);
        game.putPiece(1, at("f3"), 9);
        game.putPiece(1, at("d6"), 16);
        String[] squares = {"c4", "c3", "c5", "c6", "f3", "e3", "d4", "f4", "a4", "b4", "c1", "c2", "a6", "d5", "b2"};
        int[] side0 = {1, 2, 1, 1, 1, 1, 2, 1, 1, 3, 2, 1, 0, 0, 1};
        int[] side1 = {0, 1, 1, 0, 0, 1, 0, 2, 0, 1, 0, 0, 0, 0, 0};
        for (int i = 0; i < squares.length; i++) {
            int square = at(squares[i]);
            Check.same("22: side 0 on " + squares[i], game.guards(0, square), side0[i]);
            Check.same("23: side 0 on " + squares[i], game.guardsByLooking(0, square), side0[i]);
            Check.same("22: side 1 on " + squares[i], game.guards(1, square), side1[i]);
            Check.same("23: side 1 on " + squares[i], game.guardsByLooking(1, square), side1[i]);
        }
        BrackenGambit corners = new BrackenGambit();
        corners.putPiece(0, at("a1"), 1);
        corners.putPiece(0, at("f6"), 16);
        Check.same("22: from the lowest square", corners.guards(0, at("a2")), 1);
        Check.same("23: from the lowest square", corners.guardsByLooking(0, at("a2")), 1);
        Check.same("22: the lowest square", corners.guards(0, at("a1")), 1);
        Check.same("23: the lowest square", corners.guardsByLooking(0, at("a1")), 1);
        BrackenGambit alone = new BrackenGambit();
        alone.putPiece(0, at("d4"), 31);
        Check.same("22: not its own square", alone.guards(0, at("d4")), 0);
        Check.same("23: not its own square", alone.guardsByLooking(0, at("d4")), 0);
        Check.same("22: several kinds, one piece", alone.guards(0, at("d5")), 1);
        Check.same("23: several kinds, one piece", alone.guardsByLooking(0, at("d5")), 1);
    }

    private static void promise24() {
        BrackenGambit game = new BrackenGambit();
        Check.same("24: none", game.guarded(0), 0L);
        game.putPiece(0, at("a1"), 8);
        game.putPiece(0, at("a3"), 2);
        game.putPiece(1, at("c1"), 1);
        Check.same("24: own squares too", game.guarded(0), Check.squares("a2", "a3", "b1", "c1", "b2", "b4"));
        Check.same("24: the other side", game.guarded(1), Check.squares("b1", "d1", "c2"));
        game.putPiece(0, at("f6"), 16);
        Check.same("24: the highest square", game.guarded(0) & 1L << 35, 0L);
        game.putPiece(1, at("e6"), 1);
        Check.same("24: the highest square guarded", game.guarded(1) >> 35, 1L);
        Check.same("24: along the long diagonal", game.guarded(0),
                Check.squares("a2", "a3", "b1", "c1", "b2", "b4", "e5", "d4", "c3", "a1"));
    }

    private static void promise25() {
        BrackenGambit game = new BrackenGambit();
        game.putPiece(0, at("c3"), 8);
        Check.same("25: not guarded", game.exchange(at("c3")), 0);
        game.putPiece(1, at("d4"), 2);
        Check.same("25: no answer", game.exchange(at("c3")), 5);
        game.putPiece(0, at("c4"), 1);
        Check.same("25: the answer takes 5 and 1", game.exchange(at("c3")), 0);
        game.putPiece(1, at("e5"), 16);
        Check.same("25: the answer is answered from behind", game.exchange(at("c3")), 5);
        Check.same("25: the other side's piece", game.exchange(at("d4")), 0);
        Check.same("25: no modification", game.historySize(), 4);
        Check.refused("25: empty", game, Check.NO_ELEMENT, () -> game.exchange(at("a1")));
        BrackenGambit line = new BrackenGambit();
        line.putPiece(0, at("a1"), 12);
        line.putPiece(1, at("a2"), 1);
        line.putPiece(1, at("a3"), 8);
        line.putPiece(0, at("b1"), 1);
        Check.same("25: b1 will not answer a2, for a3 is behind", line.exchange(at("a1")), 8);
        line.putPiece(0, at("f1"), 8);
        Check.same("25: b1 answers, for f1 is behind", line.exchange(at("a1")), 0);
        Check.same("25: a3 answers", line.exchange(at("a2")), 0);
    }

    private static void promise25Leaders() {
        BrackenGambit game = new BrackenGambit();
        game.putLeader(0, at("a1"), 1);
        game.putLeader(1, at("a2"), 1);
        Check.same("25: a leader is worth 10 more", game.exchange(at("a1")), 11);
        game.putPiece(0, at("b1"), 1);
        Check.same("25: a leader that captures may be captured", game.exchange(at("a1")), 0);
        game.putPiece(1, at("b2"), 2);
        Check.same("25: b2 goes first, a2 answers b1", game.exchange(at("a1")), 11);
        BrackenGambit few = new BrackenGambit();
        few.putLeader(0, at("c3"), 8);
        few.putPiece(1, at("d4"), 2);
        few.putPiece(0, at("c4"), 1);
        Check.same("25: 15 minus the answer's 6", few.exchange(at("c3")), 9);
    }

    /** On b3 and b4 stand pieces in front of two others: whether they open that way first decides. */
    private static void promise25Choice() {
        BrackenGambit lower = new BrackenGambit();
        lower.putPiece(0, at("b3"), 8);
        lower.putPiece(0, at("b5"), 8);
        lower.putPiece(0, at("b6"), 8);
        lower.putPiece(1, at("a2"), 2);
        lower.putPiece(1, at("b4"), 1);
        Check.same("25: of equal ones a2, and b4 stays in the way", lower.exchange(at("b3")), 5);
        lower.takeAway(at("a2"));
        lower.putPiece(1, at("a2"), 16);
        Check.same("25: b4 is worth less, and opens the way", lower.exchange(at("b3")), 0);
        BrackenGambit opening = new BrackenGambit();
        opening.putPiece(0, at("b4"), 8);
        opening.putPiece(0, at("b2"), 8);
        opening.putPiece(0, at("b1"), 8);
        opening.putPiece(1, at("c5"), 2);
        opening.putPiece(1, at("b3"), 1);
        Check.same("25: of equal ones b3, which opens the way", opening.exchange(at("b4")), 0);
        opening.takeAway(at("b3"));
        opening.putPiece(1, at("b3"), 8);
        Check.same("25: c5 is worth less, and b3 stays in the way", opening.exchange(at("b4")), 5);
    }

    /** All sixteen pieces, of which the last one that captures decides. */
    private static void promise25Longest() {
        BrackenGambit game = new BrackenGambit();
        game.putPiece(0, at("c3"), 1);
        for (String name : new String[] {"c2", "c4", "b3", "d3"}) {
            game.putPiece(0, at(name), 1);
        }
        for (String name : new String[] {"b2", "b4", "d2"}) {
            game.putPiece(0, at(name), 2);
        }
        for (String name : new String[] {"a2", "a4", "b1", "b5", "d1", "d5", "e2"}) {
            game.putPiece(1, at(name), 4);
        }
        Check.same("25: seven against seven", game.exchange(at("c3")), 0);
        game.putPiece(1, at("e4"), 4);
        Check.same("25: eight against seven", game.exchange(at("c3")), 1);
        game.takeAway(at("c3"));
        game.putPiece(0, at("c3"), 31);
        Check.same("25: for all that c3 knows", game.exchange(at("c3")), 13);
    }

    private static void promise26() {
        BrackenGambit game = new BrackenGambit();
        Check.refused("26: no pieces", game, Check.NO_ELEMENT, () -> game.weakest(0));
        game.putPiece(0, at("a1"), 1);
        game.putPiece(0, at("c1"), 4);
        game.putPiece(0, at("e1"), 4);
        Check.refused("26: none guarded", game, Check.NO_ELEMENT, () -> game.weakest(0));
        game.putPiece(1, at("a2"), 1);
        Check.same("26: the only one", game.weakest(0), at("a1"));
        game.putPiece(1, at("d1"), 1);
        Check.same("26: the most, of several the lowest", game.weakest(0), at("c1"));
        game.takeAway(at("c1"));
        Check.same("26: the next", game.weakest(0), at("e1"));
        Check.same("26: the other side's", game.weakest(1), at("a2"));
        BrackenGambit well = guardedWell();
        Check.refused("26: exchanges at a loss", well, Check.NO_ELEMENT, () -> well.weakest(0));
    }

    private static BrackenGambit guardedWell() {
        BrackenGambit game = new BrackenGambit();
        game.putPiece(0, at("b2"), 1);
        game.putPiece(0, at("b1"), 1);
        game.putPiece(1, at("b6"), 8);
        return game;
    }

    private static void wrongArguments() {
        BrackenGambit game = guardedWell();
        for (int side : NO_SIDES) {
            Check.refused("21: side " + side, game, Check.INDEX, () -> game.moveCount(side));
            Check.refused("22: side " + side, game, Check.INDEX, () -> game.guards(side, 0));
            Check.refused("23: side " + side, game, Check.INDEX, () -> game.guardsByLooking(side, 0));
            Check.refused("24: side " + side, game, Check.INDEX, () -> game.guarded(side));
            Check.refused("26: side " + side, game, Check.INDEX, () -> game.weakest(side));
        }
        for (int square : NO_SQUARES) {
            Check.refused("20: square " + square, game, Check.INDEX, () -> game.reach(square));
            Check.refused("22: square " + square, game, Check.INDEX, () -> game.guards(0, square));
            Check.refused("23: square " + square, game, Check.INDEX, () -> game.guardsByLooking(1, square));
            Check.refused("25: square " + square, game, Check.INDEX, () -> game.exchange(square));
        }
    }
}
