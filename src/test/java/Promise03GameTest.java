/** Promise 3: game. */
public final class Promise03GameTest {
    private static final int[] GOOD = {0, 1, 0, 0, 0, 1};
    private static final int A = 0;
    private static final int B = 1;
    private static final int AGE = 2;
    private static final int RANK = 3;
    private static final int WEEK = 4;
    private static final int WISHES = 5;

    /** A good game but for one number, on a keeper of its own. */
    private static int gameBut(int which, int number) {
        int[] g = GOOD.clone();
        g[which] = number;
        return new FieldKeeper().game(g[0], g[1], g[2], g[3], g[4], g[5]);
    }

    private static void taken(Check check, int which, int... numbers) {
        for (int number : numbers) {
            check.due("number " + number, gameBut(which, number), 0);
        }
    }

    private static void refused(Check check, int which, int... numbers) {
        for (int number : numbers) {
            check.none("number " + number, gameBut(which, number));
        }
    }

    static void promise3TheFirstClubIs0To15(Check check) {
        taken(check, A, 0, 2, 15);
        refused(check, A, -1, 16, Calls.MIN, Calls.MAX);
    }

    static void promise3TheSecondClubIs0To15(Check check) {
        taken(check, B, 1, 2, 15);
        refused(check, B, -1, 16, Calls.MIN, Calls.MAX);
    }

    static void promise3TheClubsAreTwo(Check check) {
        for (int a = 0; a <= 15; a++) {
            for (int b = 0; b <= 15; b++) {
                FieldKeeper x = new FieldKeeper();
                check.due("clubs " + a + ", " + b, x.game(a, b, 0, 0, 0, 1), a == b ? -1 : 0);
            }
        }
    }

    static void promise3AgesAre0To2(Check check) {
        taken(check, AGE, 0, 1, 2);
        refused(check, AGE, -1, 3, Calls.MIN, Calls.MAX);
    }

    static void promise3RanksAre0To9(Check check) {
        taken(check, RANK, 0, 1, 8, 9);
        refused(check, RANK, -1, 10, Calls.MIN, Calls.MAX);
    }

    static void promise3WeeksAre0To50(Check check) {
        taken(check, WEEK, 0, 1, 49, 50);
        refused(check, WEEK, -1, 51, Calls.MIN, Calls.MAX, Calls.MAX / 7, 306783379);
    }

    static void promise3AWeekThatIsOver(Check check) {
        FieldKeeper x = new FieldKeeper();
        for (int day = 0; day < 7; day++) {
            check.due("week 0 with " + day + " days over", x.game(0, 1, 0, 0, 0, 1), day);
            x.day(0, 0);
        }
        check.none("week 0 with 7 days over", x.game(0, 1, 0, 0, 0, 1));
        check.due("week 1 then", x.game(0, 1, 0, 0, 1, 1), 7);
        Calls.plainDays(x, 6);
        check.due("week 1 with 13 days over", x.game(0, 1, 0, 0, 1, 1), 8);
        x.day(0, 0);
        check.none("week 1 with 14 days over", x.game(0, 1, 0, 0, 1, 1));
        check.none("week 0 still", x.game(0, 1, 0, 0, 0, 1));
    }

    static void promise3TheLastWeekIsOver(Check check) {
        FieldKeeper x = new FieldKeeper();
        Calls.plainDays(x, 350);
        check.none("week 49 with 350 days over", x.game(0, 1, 0, 0, 49, 1));
        Calls.plainDays(x, 6);
        check.due("week 50 with 356 days over", x.game(0, 1, 0, 0, 50, 1), 0);
        x.day(0, 0);
        check.none("week 50 with 357 days over", x.game(0, 1, 0, 0, 50, 1));
        check.none("week 51", x.game(0, 1, 0, 0, 51, 1));
    }

    static void promise3WishesOfDaysThatAreOverAreWishes(Check check) {
        FieldKeeper x = new FieldKeeper();
        Calls.plainDays(x, 6);
        check.due("a wish for day 0 on day 6", x.game(0, 1, 0, 0, 0, 1), 0);
    }

    static void promise3NoWishes(Check check) {
        refused(check, WISHES, 0);
        taken(check, WISHES, 1);
    }

    static void promise3WishesAre28Bits(Check check) {
        for (int bit = 0; bit < 32; bit++) {
            check.due("bit " + bit, gameBut(WISHES, 1 << bit), bit < 28 ? 0 : -1);
            check.due("bits 0 and " + bit, gameBut(WISHES, 1 << bit | 1), bit < 28 ? 0 : -1);
        }
        taken(check, WISHES, Calls.ALL_WISHES, Calls.ALL_WISHES - 1);
        refused(check, WISHES, Calls.ALL_WISHES + 1, Calls.ALL_WISHES + 2, -1, Calls.MIN, Calls.MAX);
    }

    static void promise3SixtyAreTheMost(Check check) {
        FieldKeeper x = new FieldKeeper();
        for (int n = 0; n < 60; n++) {
            check.due("game " + n, x.game(n % 16, (n + 1) % 16, n % 3, n % 10, n % 51, n + 1), n);
            check.due("count(1)", x.count(1), n + 1);
        }
        check.none("a 61st", x.game(0, 1, 0, 0, 0, 1));
        check.none("and again", x.game(2, 3, 0, 0, 50, 1));
        check.due("count(1)", x.count(1), 60);
        check.due("count(3)", x.count(3), 60);
        check.due("look(59, 0)", Calls.look(x, 59, 0), 0);
        check.due("look(60, 0)", Calls.look(x, 60, 0), Calls.THROWN);
    }

    static void promise3GamesThatAreOverStillAreThere(Check check) {
        FieldKeeper x = Calls.keeper(6);
        for (int n = 0; n < 60; n++) {
            x.game(n % 8 * 2, n % 8 * 2 + 1, 0, 0, n / 42, Calls.ALL_WISHES);
        }
        x.lay(0);
        Calls.plainDays(x, 7);
        check.due("some are played", x.count(5) > 0 ? 1 : 0, 1);
        check.none("a 61st", x.game(0, 1, 0, 0, 1, 1));
    }

    static void promise3ARefusedOneTakesNoNumber(Check check) {
        FieldKeeper x = new FieldKeeper();
        x.game(0, 0, 0, 0, 0, 1);
        x.game(0, 1, 0, 0, 51, 1);
        x.game(0, 1, 0, 0, 0, 0);
        check.due("count(1)", x.count(1), 0);
        check.due("the first that is taken", x.game(0, 1, 0, 0, 0, 1), 0);
        x.game(0, 1, 3, 0, 0, 1);
        check.due("the next, though it is the same", x.game(0, 1, 0, 0, 0, 1), 1);
        check.due("both are NEW", x.count(3), 2);
    }

    public static void main(String[] args) {
        Check.runTests(Promise03GameTest.class);
    }
}
