/** The edges that the document's terms name of exchanges. */
final class TermsExchangeEdges extends Edges {
    private static final String CAPTURES = "of the pieces of that side that can capture on the square, "
            + "the one with the least worth, of several the one on the lowest square, captures (and learns)";
    private static final String WORTH = "the exchange is worth the worth of the captured piece before the capture "
            + "minus what the exchange on the square is worth then for the side that was captured from";

    static void run() {
        section("Terms");
        unguarded();
        whichCaptures();
        worths();
        leadersTakePart();
        longest();
    }

    private static void exchange(String pieces, String square, int due) {
        same("on " + square + " of " + pieces, board(pieces).exchange(at(square)), due);
    }

    private static void unguarded() {
        String sentence = "(the side of which it is not): 0 if that side does not guard the square.";
        edge(sentence, "a piece that nobody guards", () -> {
            exchange("0Pc3:3", "c3", 0);
            exchange("0Pc3:3 1Pe5:1", "c3", 0);
        });
        edge(sentence, "a piece that its own side alone guards", () -> exchange("0Pc3:3 0Pc4:3 1Pf6:0", "c3", 0));
        edge(sentence, "a piece that the other side alone guards", () -> {
            exchange("0Pc3:3 1Pc4:0", "c3", 5);
            exchange("1Pc3:3 0Pc4:0", "c3", 5);
        });
    }

    /** In b4 and b3 stand pieces in front of others: whether they open that way first decides. */
    private static void whichCaptures() {
        edge(CAPTURES, "the least worth is on a higher square", () ->
            exchange("0Pb3:3 0Pb5:3 0Pb6:3 1Pa2:4 1Pb4:0", "b3", 0));
        edge(CAPTURES, "the least worth is on a lower square", () ->
            exchange("0Pb4:3 0Pb2:3 0Pb1:3 1Pc5:4 1Pb3:0", "b4", 0));
        edge(CAPTURES, "of two with the least worth the lower one", () -> {
            exchange("0Pb3:3 0Pb5:3 0Pb6:3 1Pa2:1 1Pb4:0", "b3", 5);
            exchange("0Pb4:3 0Pb2:3 0Pb1:3 1Pc5:1 1Pb3:0", "b4", 0);
        });
        edge(CAPTURES, "the least worth stands where it can not capture", () ->
            exchange("0Pb3:2 1Pb5:3 1Pf6:0 0Pa3:0", "b3", 0));
        edge(CAPTURES, "what the capturing piece learns counts", () -> {
            exchange("0Pc3:3 1Pd4:1 0Pc4:0", "c3", 0);
            exchange("0Pc3:2 1Pd4:1 0Pc4:0", "c3", 0);
        });
    }

    private static void worths() {
        edge(CAPTURES, "nothing new to learn", () -> exchange("0Lc3:0 1Pd3:0 0Pc4:0", "c3", 11 - 1));
        edge(WORTH, "the captured one's worth before the capture", () -> {
            exchange("0Pc3:0 1Pc4:01234", "c3", 1);
            exchange("0Pc3:01234 1Pc4:0", "c3", 13);
        });
        edge(WORTH, "an answer that is worth something", () -> {
            exchange("0Lc3:3 1Pd4:1 0Pc4:0", "c3", 15 - 6);
            exchange("0Lc3:01234 1Pd3:0 0Pc4:0", "c3", 23 - 13);
        });
        edge(WORTH, "an answer that is worth nothing", () ->
            exchange("0Pc3:3 1Pd4:1 0Pc4:0 1Pb2:1", "c3", 5));
        edge(WORTH, "a piece behind the one that captures", () -> {
            exchange("0Pa1:23 1Pa2:0 0Pb1:0", "a1", 0);
            exchange("0Pa1:23 1Pa2:0 1Pa3:3 0Pb1:0", "a1", 8);
            exchange("0Pa1:23 1Pa2:0 1Pa3:3 0Pb1:0 0Pf1:3", "a1", 0);
        });
        edge("but at least 0", "a loss, and neither loss nor gain", () -> {
            exchange("0Pc3:0 1Pc4:3 0Pb2:1", "c3", 0);
            exchange("0Pc3:0 1Pc4:0 0Pb2:1", "c3", 0);
            exchange("0Pc3:3 1Pc4:3 0Pb2:1", "c3", 0);
        });
    }

    private static void leadersTakePart() {
        String sentence = "(Leaders take part like others; that their capture ends the game does not matter here.)";
        edge(sentence, "a leader captures", () -> {
            exchange("0Pc3:3 1Lc4:0", "c3", 5);
            exchange("0Pc3:3 1Lc4:0 1Pd4:1 0Pb2:1", "c3", 5);
            exchange("0Pc3:3 1Lc4:0 0Pb2:1", "c3", 0);
        });
        edge(sentence, "a captured leader is answered", () -> {
            exchange("0La1:0 1La2:0", "a1", 11);
            exchange("0La1:0 1La2:0 0Pb1:0", "a1", 0);
            exchange("0La1:0 1Pa2:0 0Pb1:0", "a1", 10);
        });
        edge(sentence, "a leader that answers may be captured", () -> {
            exchange("0Pa1:0 1Pa2:0 0Lb1:0", "a1", 0);
            exchange("0Pa1:0 1Pa2:0 0Lb1:0 1Pb2:1", "a1", 1);
        });
    }

    private static void longest() {
        edge(WORTH, "all sixteen pieces", () -> {
            String seven = "0Pc2:0 0Pc4:0 0Pb3:0 0Pd3:0 0Pb2:1 0Pb4:1 0Pd2:1 "
                    + "1Pa2:2 1Pa4:2 1Pb1:2 1Pb5:2 1Pd1:2 1Pd5:2 1Pe2:2 ";
            exchange(seven + "0Pc3:0", "c3", 0);
            exchange(seven + "0Pc3:0 1Pe4:2", "c3", 1);
            exchange(seven + "0Pc3:01234 1Pe4:2", "c3", 13);
        });
    }
}
