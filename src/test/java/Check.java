import java.util.NoSuchElementException;

/** What the tests share: counting wrong answers, and looking at a whole game. */
final class Check {
    static final Class<IndexOutOfBoundsException> INDEX = IndexOutOfBoundsException.class;
    static final Class<IllegalArgumentException> ARGUMENT = IllegalArgumentException.class;
    static final Class<IllegalStateException> STATE = IllegalStateException.class;
    static final Class<NoSuchElementException> NO_ELEMENT = NoSuchElementException.class;

    private static int wrong = 0;
    private static int asked = 0;

    interface Call {
        Object answer();
    }

    private Check() {
    }

    static int wrong() {
        return wrong;
    }

    static int asked() {
        return asked;
    }

    static void same(String what, Object got, Object want) {
        asked++;
        if (!got.equals(want)) {
            wrong++;
            System.out.println(what + ": answered " + got + ", due is " + want);
        }
    }

    /** The answer of a call, or the name of what it throws. */
    static String outcome(Call call) {
        try {
            return String.valueOf(call.answer());
        } catch (RuntimeException e) {
            return "throws " + e.getClass().getName();
        }
    }

    /** The call must throw exactly this exception, and change nothing. */
    static void refused(String what, BrackenGambit game, Class<?> exception, Call call) {
        String before = lookAt(game);
        same(what, outcome(call), "throws " + exception.getName());
        same(what + " changes nothing", lookAt(game), before);
    }

    /** All that the queries tell about a game. */
    static String lookAt(BrackenGambit game) {
        StringBuilder seen = new StringBuilder();
        for (int square = 0; square < 36; square++) {
            int at = square;
            String side = outcome(() -> game.sideAt(at));
            if (!side.startsWith("throws")) {
                seen.append(square).append(" side ").append(side)
                        .append(" steps ").append(outcome(() -> game.stepsAt(at)))
                        .append(" worth ").append(outcome(() -> game.worthAt(at)))
                        .append(" reach ").append(outcome(() -> game.reach(at)))
                        .append(" exchange ").append(outcome(() -> game.exchange(at)))
                        .append('\n');
            }
        }
        for (int side = 0; side < 2; side++) {
            lookAtSide(game, side, seen);
        }
        seen.append("toMove ").append(game.toMove())
                .append(" over ").append(game.isOver())
                .append(" winner ").append(outcome(game::winner))
                .append(" repetitions ").append(game.repetitions())
                .append(" made ").append(game.movesMade())
                .append(" history ").append(game.historySize())
                .append(" valid ").append(game.isValid())
                .append(" error ").append(outcome(game::firstError));
        return seen.toString();
    }

    private static void lookAtSide(BrackenGambit game, int side, StringBuilder seen) {
        seen.append("side ").append(side)
                .append(" pieces ").append(game.pieces(side))
                .append(" leader ").append(outcome(() -> game.leaderOf(side)))
                .append(" moves ").append(game.moveCount(side))
                .append(" guarded ").append(game.guarded(side))
                .append(" weakest ").append(outcome(() -> game.weakest(side)))
                .append(" worth ").append(game.worth(side))
                .append(" account ").append(game.worthByAccount(side))
                .append(" captured ").append(game.captured(side))
                .append(" share ").append(game.worthShare(side))
                .append(" knowing");
        for (int kind = 0; kind < 5; kind++) {
            seen.append(' ').append(game.knowing(side, kind));
        }
        seen.append(" guards");
        for (int square = 0; square < 36; square++) {
            seen.append(' ').append(game.guards(side, square))
                    .append('/').append(game.guardsByLooking(side, square));
        }
        seen.append('\n');
    }

    /** What lookAt shows but for the size of the history, which undo makes smaller. */
    static String stateOf(BrackenGambit game) {
        return lookAt(game).replaceAll("history \\d", "history");
    }

    static void type(BrackenGambit game, String text) {
        for (int i = 0; i < text.length(); i++) {
            game.append(text.charAt(i));
        }
    }

    static void retype(BrackenGambit game, String text) {
        game.clearText();
        type(game, text);
    }

    static int square(String name) {
        return 6 * (name.charAt(1) - '1') + name.charAt(0) - 'a';
    }

    static long squares(String... names) {
        long found = 0L;
        for (String name : names) {
            found |= 1L << square(name);
        }
        return found;
    }

    /** Ends a test's program, as the tests under ../shared/tests end theirs. */
    static void finish() {
        System.out.println(asked + " answers, " + wrong + " wrong");
        if (wrong != 0 || asked == 0) {
            System.exit(1);
        }
    }
}
