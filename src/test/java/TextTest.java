/** Promises 9 to 12: append, clearText, isValid, firstError. */
public final class TextTest {
    public static void main(String[] args) {
        promise9();
        promise10();
        promise11();
        promise12();
        promise12EachCharacter();
        Check.finish();
    }

    private static void promise9() {
        BrackenGambit game = new BrackenGambit();
        char[] odd = {0, 'z', ' ', 127, 255, 256, Character.MAX_VALUE};
        int length = 0;
        for (char character : odd) {
            length++;
            Check.same("9: any character", game.append(character), length);
        }
        while (length < 60) {
            length++;
            Check.same("9: up to 60", game.append('a'), length);
        }
        Check.refused("9: a 61st", game, Check.STATE, () -> game.append('a'));
        Check.refused("9: a 61st again", game, Check.STATE, () -> game.append('a'));
        Check.same("9: no modification", game.historySize(), 0);
        Check.same("9: the refused ones are not there", game.clearText(), 60);
        Check.same("9: after clearing", game.append('a'), 1);
    }

    private static void promise10() {
        BrackenGambit game = new BrackenGambit();
        Check.same("10: empty", game.clearText(), 0);
        Check.type(game, "a1b1");
        Check.same("10: the length", game.clearText(), 4);
        Check.same("10: cleared", game.clearText(), 0);
        Check.same("10: nothing left", game.isValid(), false);
        Check.same("10: first error at the start", game.firstError(), 0);
        Check.same("10: no modification", game.historySize(), 0);
        game.putPiece(0, 0, 1);
        Check.type(game, "x");
        game.undo();
        Check.same("10: undo leaves the text", game.clearText(), 1);
        game.putPiece(0, 0, 1);
        Check.type(game, "x");
        game.clearText();
        game.undo();
        Check.same("10: undo does not bring it back", game.clearText(), 0);
    }

    private static void promise11() {
        String[] lists = {"a1b1", "a1a2", "f6a1", "a1b2 c3d4", "a1b1 a1b1", "f6e6 a1f6 b2b3",
            "a1b1 a1b1 a1b1 a1b1 a1b1 a1b1 a1b1 a1b1 a1b1 a1b1 a1b1 a1b1"};
        for (String list : lists) {
            BrackenGambit game = new BrackenGambit();
            Check.type(game, list);
            Check.same("11: " + list, game.isValid(), true);
        }
        String[] others = {"", "a", "a1", "a1b", "a1a1", "a1b1 ", "a1b1 c", "a1b1 c2", "a1b1 c2d", "a1b1 c2c2",
            "a1b1x", "a1b1a1b1", "g1b1", "a7b1", "a0b1", "A1b1", "a1B1", " a1b1", "a1 b1", "a1b1\t", "1ab1", "`1b1",
            "a1b1  a1b1", "a1b1,a1b1"};
        for (String other : others) {
            BrackenGambit game = new BrackenGambit();
            Check.type(game, other);
            Check.same("11: no list: " + other, game.isValid(), false);
        }
    }

    private static void promise12() {
        String twelve = "a1b1 a1b1 a1b1 a1b1 a1b1 a1b1 a1b1 a1b1 a1b1 a1b1 a1b1 a1b1";
        String[] texts = {"", "a", "a1", "a1a", "a1a1", "a1b1 ", "a1b1  ", "a1b1a", "g", "a7", "a1g", "a1b7", "1", " ",
            "xx", "a1a1 b1", "a1b1 c3c3", "a1b1 c3c4 ", "a1b1 c3c4 f6f", "a1c1 1", twelve + " ", "a1b0", "a10"};
        int[] errors = {0, 1, 2, 3, 3, 5, 5, 4, 0, 1, 2, 3, 0, 0, 0, 3, 8, 10, 13, 5, 60, 3, 2};
        for (int i = 0; i < texts.length; i++) {
            BrackenGambit game = new BrackenGambit();
            Check.type(game, texts[i]);
            Check.same("12: " + texts[i], game.firstError(), errors[i]);
            Check.same("12: no modification", game.historySize(), 0);
        }
        for (String list : new String[] {"a1b1", "a1b1 a1b1", twelve}) {
            BrackenGambit game = new BrackenGambit();
            Check.type(game, list);
            Check.refused("12: a list " + list, game, Check.STATE, game::firstError);
        }
        BrackenGambit full = new BrackenGambit();
        Check.type(full, twelve + "a");
        Check.same("12: the last character", full.firstError(), 59);
    }

    private static void promise12EachCharacter() {
        String front = "c3d4 c3";
        String[] follows = {"abcdef", "123456", "abcdef", "12456", " "};
        String sample = "c3c4 ";
        BrackenGambit game = new BrackenGambit();
        for (int place = 0; place < 5; place++) {
            for (char character = 0; character < 300; character++) {
                Check.retype(game, "a1b1 " + sample.substring(0, place) + character);
                int due = follows[place].indexOf(character) >= 0 ? 6 + place : 5 + place;
                Check.same("12: " + (int) character + " at " + place,
                        game.isValid() ? 6 + place : game.firstError(), due);
            }
        }
        Check.retype(game, front + "d3");
        Check.same("12: another column", game.isValid(), true);
    }
}
