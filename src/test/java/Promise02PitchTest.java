/** Promise 2: pitch. */
public final class Promise02PitchTest {
    static void promise2AgesAre0To2(Check check) {
        FieldKeeper x = new FieldKeeper();
        for (int age : new int[] {-1, 3, Calls.MIN, Calls.MAX}) {
            check.none("pitch(" + age + ", 0)", x.pitch(age, 0));
        }
        for (int age = 0; age <= 2; age++) {
            check.due("pitch(" + age + ", 0)", x.pitch(age, 0), age);
        }
    }

    static void promise2StandsAre0And1(Check check) {
        FieldKeeper x = new FieldKeeper();
        for (int stand : new int[] {-1, 2, Calls.MIN, Calls.MAX}) {
            check.none("pitch(0, " + stand + ")", x.pitch(0, stand));
        }
        for (int stand = 0; stand <= 1; stand++) {
            check.due("pitch(0, " + stand + ")", x.pitch(0, stand), stand);
            check.due("its stand", x.field(stand, 0), stand);
        }
    }

    static void promise2SixAreTheMost(Check check) {
        FieldKeeper x = new FieldKeeper();
        for (int n = 0; n < 6; n++) {
            check.due("pitch " + n, x.pitch(n % 3, n % 2), n);
            check.due("count(0)", x.count(0), n + 1);
        }
        check.none("a seventh", x.pitch(0, 0));
        check.none("and again", x.pitch(2, 1));
        check.due("count(0)", x.count(0), 6);
        check.none("field(6, 0)", x.field(6, 0));
        for (int n = 0; n < 6; n++) {
            check.due("stand of " + n, x.field(n, 0), n % 2);
        }
    }

    static void promise2NoneOnceADayIsOver(Check check) {
        FieldKeeper x = new FieldKeeper();
        check.due("before", x.pitch(2, 0), 0);
        x.day(11, 0);
        check.due("behind a day that was refused", x.pitch(2, 0), 1);
        x.day(0, 0);
        check.none("behind a day", x.pitch(2, 0));
        Calls.plainDays(x, 356);
        check.none("behind the last day", x.pitch(2, 0));
        check.due("count(0)", x.count(0), 2);
    }

    static void promise2ARefusedOneTakesNoNumber(Check check) {
        FieldKeeper x = new FieldKeeper();
        x.pitch(3, 0);
        x.pitch(0, 2);
        check.due("count(0)", x.count(0), 0);
        check.due("the first that is taken", x.pitch(2, 1), 0);
        x.pitch(-1, 0);
        check.due("the next", x.pitch(2, 0), 1);
        check.due("stand of 0", x.field(0, 0), 1);
        check.due("stand of 1", x.field(1, 0), 0);
    }

    static void promise2EachCellHas800AtFirst(Check check) {
        FieldKeeper x = new FieldKeeper();
        x.pitch(0, 0);
        x.pitch(2, 1);
        for (int cell = 0; cell < 48; cell++) {
            check.due("cell " + cell, x.grass(cell / 24, cell % 24 / 6, cell % 6), 800);
        }
        check.due("least", x.field(1, 1), 800);
        check.due("mean", x.field(1, 2), 800);
        check.due("games", x.field(1, 3), 0);
        check.due("hours shut", x.field(1, 4), 0);
        check.due("wear", x.field(1, 5), 0);
    }

    static void promise2ItTakesAgesUpToItsOwn(Check check) {
        for (int age = 0; age <= 2; age++) {
            for (int player = 0; player <= 2; player++) {
                FieldKeeper x = new FieldKeeper();
                x.pitch(age, 0);
                x.game(0, 1, player, 0, 0, Calls.ALL_WISHES);
                check.due("a pitch for " + age + ", a game of " + player, x.lay(0), player <= age ? 0 : 1);
            }
        }
    }

    public static void main(String[] args) {
        Check.runTests(Promise02PitchTest.class);
    }
}
