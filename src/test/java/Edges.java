import java.util.ArrayList;
import java.util.LinkedHashMap;
import java.util.LinkedHashSet;
import java.util.List;
import java.util.Map;
import java.util.Set;

/**
 * What the tests of the document's boundary cases share: each test belongs to one sentence
 * of the document, which it quotes, and to one edge that the sentence names.
 */
abstract class Edges {
    static final int[] NO_SIDES = {-1, 2, Integer.MIN_VALUE, Integer.MAX_VALUE};
    static final int[] NO_SQUARES = {-1, 36, Integer.MIN_VALUE, Integer.MAX_VALUE};
    static final int[] NO_KINDS = {-1, 5, Integer.MIN_VALUE, Integer.MAX_VALUE};
    static final int[] NO_STEPS = {0, 32, -1, Integer.MIN_VALUE, Integer.MAX_VALUE};

    private static final Set<String> NAMES = new LinkedHashSet<>();
    private static final Map<String, List<String>> QUOTES = new LinkedHashMap<>();
    private static String section = "";
    private static String only = null;

    static void section(String heading) {
        section = heading;
    }

    /** From now on edge() runs one test alone, by the name of its section and edge. */
    static void runOnly(String name) {
        only = name;
    }

    static Set<String> names() {
        return NAMES;
    }

    static List<String> quotesIn(String heading) {
        return QUOTES.getOrDefault(heading, List.of());
    }

    static void edge(String sentence, String edge, Runnable test) {
        String name = section + ": " + edge;
        Check.same(name + " is a name of its own", NAMES.add(name), true);
        QUOTES.computeIfAbsent(section, heading -> new ArrayList<>()).add(sentence);
        if (only != null && !only.equals(name)) {
            return;
        }
        int wrong = Check.wrong();
        int asked = Check.asked();
        Check.same(name + ", run to its end", Check.outcome(() -> {
            test.run();
            return "as due";
        }), "as due");
        Check.same(name + ", asks something", Check.asked() > asked + 1, true);
        if (Check.wrong() > wrong) {
            System.out.println("broken: " + section + ": \"" + sentence + "\" (" + edge + ")");
        }
    }

    static void same(String what, Object got, Object want) {
        Check.same(section + ": " + what, got, want);
    }

    static void refused(String what, BrackenGambit game, Class<?> exception, Check.Call call) {
        Check.refused(section + ": " + what, game, exception, call);
    }

    static int at(String name) {
        return Check.square(name);
    }

    /** A new object with pieces on it, such as "0La1:0 1Pc3:24": side, leader or piece, square, kinds. */
    static BrackenGambit board(String pieces) {
        BrackenGambit game = new BrackenGambit();
        put(game, pieces);
        return game;
    }

    static void put(BrackenGambit game, String pieces) {
        for (String words : pieces.split(" ")) {
            int side = words.charAt(0) - '0';
            int square = at(words.substring(2, 4));
            int steps = 0;
            for (char kind : words.substring(5).toCharArray()) {
                steps |= 1 << kind - '0';
            }
            if (words.charAt(1) == 'L') {
                game.putLeader(side, square, steps);
            } else {
                game.putPiece(side, square, steps);
            }
        }
    }

    static BrackenGambit started(String pieces) {
        BrackenGambit game = board(pieces);
        game.start();
        return game;
    }

    /** Two leaders in opposite corners, the game started. */
    static BrackenGambit leaders() {
        return started("0La1:0 1Lf6:0");
    }

    /** Makes moves such as "a1b1 f6f5", each by a call of its own. */
    static void moves(BrackenGambit game, String moves) {
        for (String move : moves.split(" ")) {
            game.move(at(move), at(move.substring(2)));
        }
    }

    static BrackenGambit text(String text) {
        BrackenGambit game = new BrackenGambit();
        Check.type(game, text);
        return game;
    }

    static BrackenGambit wonByCapture() {
        BrackenGambit game = started("0La1:0 1La2:0 0Pf1:0 1Pf6:0");
        moves(game, "a1a2");
        return game;
    }

    static BrackenGambit drawnByRepetition() {
        BrackenGambit game = leaders();
        moves(game, "a1b1 f6e6 b1a1 e6f6 a1b1 f6e6 b1a1 e6f6");
        return game;
    }

    /** The squares a1, b1, .. up to a number of them, each with a piece of a side. */
    static BrackenGambit piecesOf(int side, int number) {
        BrackenGambit game = new BrackenGambit();
        for (int square = 0; square < number; square++) {
            game.putPiece(side, square, 1);
        }
        return game;
    }
}
