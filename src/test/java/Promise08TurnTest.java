/** Promise 8: turn. */
public final class Promise08TurnTest {
    static void promise8NoneSuch(Check check) {
        check.none("turn(0) without a pitch", new FieldKeeper().turn(0));
        for (int pitches = 1; pitches <= 6; pitches++) {
            FieldKeeper x = Calls.keeper(pitches);
            check.due("the last of " + pitches, x.turn(pitches - 1), 1);
            check.none("the next of " + pitches, x.turn(pitches));
            for (int pitch : new int[] {-1, 6, Calls.MIN, Calls.MAX}) {
                check.none("turn(" + pitch + ")", x.turn(pitch));
            }
        }
    }

    static void promise8From0To1AndBack(Check check) {
        for (int stand = 0; stand <= 1; stand++) {
            FieldKeeper x = new FieldKeeper();
            x.pitch(0, stand);
            check.due("turned once", x.turn(0), 1 - stand);
            check.due("it stands so", x.field(0, 0), 1 - stand);
            check.due("turned twice", x.turn(0), stand);
            check.due("it stands so", x.field(0, 0), stand);
            check.due("turned a third time", x.turn(0), 1 - stand);
        }
    }

    static void promise8OnlyThatPitch(Check check) {
        FieldKeeper x = Calls.keeper(3);
        x.turn(1);
        check.due("0", x.field(0, 0), 0);
        check.due("1", x.field(1, 0), 1);
        check.due("2", x.field(2, 0), 0);
    }

    static void promise8FromNowOn(Check check) {
        FieldKeeper x = Calls.keeper(1);
        for (int day = 0; day < 3; day++) {
            x.game(0, 1, 0, 0, 0, Calls.wish(day, 0));
        }
        x.lay(0);
        x.day(0, 0);
        check.due("stood 0: row 1, column 0", x.grass(0, 1, 0), 788);
        check.due("stood 0: row 0, column 2", x.grass(0, 0, 2), 796);
        x.turn(0);
        check.due("turning changes no grass", x.grass(0, 1, 0) * 1000 + x.grass(0, 0, 2), 788796);
        x.day(0, 0);
        check.due("stood 1: row 1, column 0", x.grass(0, 1, 0), 784);
        check.due("stood 1: row 0, column 2", x.grass(0, 0, 2), 784);
        x.turn(0);
        x.day(0, 0);
        check.due("stood 0 again: row 1, column 0", x.grass(0, 1, 0), 772);
        check.due("stood 0 again: row 0, column 2", x.grass(0, 0, 2), 780);
    }

    static void promise8BehindTheLastDay(Check check) {
        FieldKeeper x = Calls.keeper(1);
        Calls.plainDays(x, 357);
        check.due("turn", x.turn(0), 1);
    }

    public static void main(String[] args) {
        Check.runTests(Promise08TurnTest.class);
    }
}
