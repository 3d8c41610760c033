/** Promise 10: look. */
public final class Promise10LookTest {
    private static void throwsThere(Check check, FieldKeeper x, int game, int what) {
        check.due("look(" + game + ", " + what + ")", Calls.look(x, game, what), Calls.THROWN);
    }

    private static void looks(Check check, FieldKeeper x, int game, int... due) {
        for (int what = 0; what < due.length; what++) {
            check.due("look(" + game + ", " + what + ")", Calls.look(x, game, what), due[what]);
        }
    }

    static void promise10NoSuchGame(Check check) {
        FieldKeeper x = new FieldKeeper();
        throwsThere(check, x, 0, 0);
        for (int games = 1; games <= 60; games++) {
            x.game(0, 1, 0, 0, 0, 1);
            check.due("the last of " + games, Calls.look(x, games - 1, 0), 0);
            throwsThere(check, x, games, 0);
        }
        for (int game : new int[] {-1, 60, 61, Calls.MIN, Calls.MAX}) {
            for (int what = 0; what <= 4; what++) {
                throwsThere(check, x, game, what);
            }
        }
    }

    static void promise10NoSuchWhat(Check check) {
        FieldKeeper x = new FieldKeeper();
        x.game(0, 1, 0, 0, 0, 1);
        check.due("look(0, 0)", Calls.look(x, 0, 0), 0);
        check.due("look(0, 4)", Calls.look(x, 0, 4), 0);
        for (int what : new int[] {-1, 5, 6, Calls.MIN, Calls.MAX}) {
            throwsThere(check, x, 0, what);
        }
    }

    static void promise10ARefusedGameIsNone(Check check) {
        FieldKeeper x = new FieldKeeper();
        x.game(0, 0, 0, 0, 0, 1);
        throwsThere(check, x, 0, 0);
    }

    static void promise10OfANewGame(Check check) {
        FieldKeeper x = Calls.keeper(1);
        x.game(0, 1, 0, 0, 0, 1);
        looks(check, x, 0, 0, -1, -1, -1, 0);
    }

    static void promise10OfALaidAndAPlayedGame(Check check) {
        FieldKeeper x = Calls.keeper(1);
        x.game(0, 1, 0, 0, 0, 1);
        x.lay(0);
        looks(check, x, 0, 1, 0, 0, 0, 0);
        x.day(0, 0);
        looks(check, x, 0, 2, 0, 0, 0, 0);
        Calls.plainDays(x, 10);
        looks(check, x, 0, 2, 0, 0, 0, 0);
    }

    static void promise10TheLastSlotOfAll(Check check) {
        FieldKeeper x = Calls.keeper(5);
        x.pitch(2, 0);
        for (int n = 0; n < 6; n++) {
            x.game(2 * n, 2 * n + 1, 0, 0, 50, Calls.wish(6, 3));
        }
        x.lay(50);
        looks(check, x, 5, 1, 356, 3, 5, 0);
        Calls.plainDays(x, 357);
        looks(check, x, 5, 2, 356, 3, 5, 0);
    }

    static void promise10OfACalledOffGame(Check check) {
        FieldKeeper x = Calls.keeper(1);
        x.game(0, 1, 0, 0, 0, Calls.wish(5, 2));
        x.lay(0);
        Calls.read(x, "shut all when 1;");
        Calls.plainDays(x, 5);
        looks(check, x, 0, 1, 5, 2, 0, 0);
        x.day(0, 0);
        looks(check, x, 0, 1, 6, 0, 0, 1);
        x.day(0, 0);
        looks(check, x, 0, 3, -1, -1, -1, 1);
    }

    public static void main(String[] args) {
        Check.runTests(Promise10LookTest.class);
    }
}
