import java.lang.reflect.Field;

/**
 * Puts more pieces on a board than a side may have. The face refuses that, but only so can
 * a side be stalled: without a move it needs 18 pieces or more that stand in each other's way.
 */
final class Beyond {
    private static final int DIAGONAL = 2;
    private static final int SIDE_ONE = 64;

    private Beyond() {
    }

    /**
     * Fills the empty squares of a1's colour with pieces that know diagonal steps alone.
     * Answers false, and does nothing, if the class holds its board otherwise than is known here.
     */
    static boolean diagonalPieces(BrackenGambit game, int side) {
        try {
            Object state = inside(game, "game");
            int[] squares = (int[]) inside(inside(state, "board"), "squares");
            for (int square = 0; square < 36; square++) {
                if ((square / 6 + square % 6) % 2 == 0 && squares[square] == 0) {
                    squares[square] = DIAGONAL + SIDE_ONE * side;
                }
            }
            return true;
        } catch (ReflectiveOperationException | ClassCastException e) {
            System.out.println("no side could be stalled here: Beyond does not know how the board is held");
            return false;
        }
    }

    private static Object inside(Object holder, String name) throws ReflectiveOperationException {
        Field field = holder.getClass().getDeclaredField(name);
        field.setAccessible(true);
        return field.get(holder);
    }
}
