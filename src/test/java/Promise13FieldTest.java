/** Promise 13: field. */
public final class Promise13FieldTest {
    static void promise13PitchesThatAreThere(Check check) {
        check.none("without a pitch", new FieldKeeper().field(0, 0));
        for (int pitches = 1; pitches <= 6; pitches++) {
            FieldKeeper x = Calls.keeper(pitches);
            check.due("the last of " + pitches, x.field(pitches - 1, 1), 800);
            for (int what = 0; what <= 5; what++) {
                check.none("the next of " + pitches, x.field(pitches, what));
                for (int pitch : new int[] {-1, 6, Calls.MIN, Calls.MAX}) {
                    check.none("field(" + pitch + ", " + what + ")", x.field(pitch, what));
                }
            }
        }
    }

    static void promise13WhatsAre0To5(Check check) {
        FieldKeeper x = Calls.keeper(1);
        int[] due = {0, 800, 800, 0, 0, 0};
        for (int what = 0; what <= 5; what++) {
            check.due("field(0, " + what + ")", x.field(0, what), due[what]);
        }
        for (int what : new int[] {-1, 6, 7, Calls.MIN, Calls.MAX}) {
            check.none("field(0, " + what + ")", x.field(0, what));
        }
    }

    /** By hand: with wet 1 a game of age 0 takes 4 from 16 cells, 8 from 4, 13 from 4: 148 in all. */
    static void promise13TheMeanIsCut(Check check) {
        FieldKeeper x = new FieldKeeper();
        x.pitch(0, 1);
        x.game(0, 1, 0, 0, 0, 1);
        x.lay(0);
        Calls.read(x, "shut 0 when hour = 3;");
        x.day(0, 1);
        int[] due = {1, 787, 793, 1, 1, 148};
        for (int what = 0; what <= 5; what++) {
            check.due("field(0, " + what + ")", x.field(0, what), due[what]);
        }
    }

    static void promise13AWholeMean(Check check) {
        FieldKeeper x = Calls.keeper(1);
        x.game(0, 1, 0, 0, 0, 1);
        x.lay(0);
        x.day(0, 0);
        check.due("800 - 144 / 24", x.field(0, 2), 794);
    }

    static void promise13GamesPlayedAreOfAllWeeks(Check check) {
        FieldKeeper x = Calls.keeper(1);
        for (int week = 0; week < 3; week++) {
            x.game(0, 1, 0, 0, week, 1);
            x.lay(week);
        }
        Calls.plainDays(x, 15);
        check.due("games", x.field(0, 3), 3);
        check.due("wear", x.field(0, 5), 3 * 144);
    }

    static void promise13HoursShutAreOfAllWeeks(Check check) {
        FieldKeeper x = Calls.keeper(2);
        Calls.read(x, "shut 1 when day = 6;");
        Calls.plainDays(x, 14);
        check.due("pitch 0", x.field(0, 4), 0);
        check.due("pitch 1", x.field(1, 4), 8);
    }

    static void promise13WearIsWhatIsTrulyLost(Check check) {
        FieldKeeper x = Calls.keeper(1);
        for (int n = 0; n < 60; n++) {
            x.game(n % 4 * 2, n % 4 * 2 + 1, 2, 0, n / 28, Calls.ALL_WISHES);
        }
        int[] grass = new int[24];
        java.util.Arrays.fill(grass, 800);
        int lost = 0;
        for (int day = 0; day < 15; day++) {
            x.lay(day / 7);
            x.lay(2);
            x.day(0, 8);
            for (int n = 0; n < 24 * 4; n++) {
                int cell = n % 24;
                int wear = Math.min(grass[cell], 8 * Calls.factor(0, cell / 6, cell % 6) * 18 / 10);
                grass[cell] -= wear;
                lost += wear;
            }
            check.due("wear behind day " + day, x.field(0, 5), lost);
            check.due("games", x.field(0, 3), 4 * day + 4);
        }
        check.due("no grass is left", lost, 24 * 800);
    }

    static void promise13WearIsNoLessByGrowth(Check check) {
        FieldKeeper x = Calls.keeper(1);
        x.game(0, 1, 0, 0, 0, 1);
        x.lay(0);
        x.day(10, 0);
        check.due("wear", x.field(0, 5), 144);
        for (int n = 0; n < 20; n++) {
            x.day(10, 5);
        }
        check.due("the grass is more than at first", x.field(0, 1) > 800 ? 1 : 0, 1);
        check.due("wear", x.field(0, 5), 144);
    }

    public static void main(String[] args) {
        Check.runTests(Promise13FieldTest.class);
    }
}
