/**
 * Promise 14: would. The two ways to stand have as many cells of each F, and grass is the same in
 * all cells at first, so that least, mean and wear of the other way are always the pitch's own.
 */
public final class Promise14WouldTest {
    static void promise14PitchesThatAreThere(Check check) {
        check.none("without a pitch", new FieldKeeper().would(0, 0));
        for (int pitches = 1; pitches <= 6; pitches++) {
            FieldKeeper x = Calls.keeper(pitches);
            check.due("the last of " + pitches, x.would(pitches - 1, 0), 800);
            for (int what = 0; what <= 2; what++) {
                check.none("the next of " + pitches, x.would(pitches, what));
                for (int pitch : new int[] {-1, 6, Calls.MIN, Calls.MAX}) {
                    check.none("would(" + pitch + ", " + what + ")", x.would(pitch, what));
                }
            }
        }
    }

    static void promise14WhatsAre0To2(Check check) {
        FieldKeeper x = Calls.keeper(1);
        int[] due = {800, 800, 0};
        for (int what = 0; what <= 2; what++) {
            check.due("would(0, " + what + ")", x.would(0, what), due[what]);
        }
        for (int what : new int[] {-1, 3, 4, 5, Calls.MIN, Calls.MAX}) {
            check.none("would(0, " + what + ")", x.would(0, what));
        }
    }

    static void promise14OneGameByHand(Check check) {
        for (int stand = 0; stand <= 1; stand++) {
            FieldKeeper x = new FieldKeeper();
            x.pitch(2, stand);
            x.pitch(2, stand);
            x.game(0, 1, 0, 0, 0, 1);
            x.lay(0);
            x.day(0, 1);
            int[] due = {787, 793, 148};
            for (int what = 0; what <= 2; what++) {
                check.due("would(0, " + what + ")", x.would(0, what), due[what]);
                check.due("would(1, " + what + ")", x.would(1, what), what < 2 ? 800 : 0);
            }
        }
    }

    /** Three games the one way and one the other: the same cells are worn by 3 and by 1. */
    static void promise14TurnedAsOften(Check check) {
        FieldKeeper x = Calls.keeper(1);
        for (int day = 0; day < 4; day++) {
            x.game(0, 1, 2, 0, 0, Calls.wish(day, 0));
        }
        x.lay(0);
        Calls.plainDays(x, 3);
        check.due("least behind three", x.would(0, 0), 800 - 3 * 24);
        x.turn(0);
        check.due("turning changes nothing", x.would(0, 0), 800 - 3 * 24);
        x.day(0, 0);
        check.due("least behind the fourth", x.would(0, 0), 800 - 3 * 24 - 8);
        check.due("wear", x.would(0, 2), 4 * 36 * 8);
        check.due("mean", x.would(0, 1), 800 - 4 * 36 * 8 / 24);
    }

    /** Turned in the middle, with cells that come to 0: both ways beside a plain sum. */
    static void promise14WhereGrassEnds(Check check) {
        FieldKeeper x = Calls.keeper(1);
        for (int n = 0; n < 60; n++) {
            x.game(n % 4 * 2, n % 4 * 2 + 1, 2, 0, n / 28, Calls.ALL_WISHES);
        }
        int[][] grass = new int[2][24];
        java.util.Arrays.fill(grass[0], 800);
        java.util.Arrays.fill(grass[1], 800);
        int[] worn = new int[2];
        int stand = 0;
        for (int day = 0; day < 14; day++) {
            int wet = day < 7 ? 8 : 0;
            x.lay(day / 7);
            x.day(0, wet);
            for (int n = 0; n < 24 * 4; n++) {
                int cell = n % 24;
                for (int way = 0; way < 2; way++) {
                    int factor = Calls.factor(way == 0 ? stand : 1 - stand, cell / 6, cell % 6);
                    int lost = Math.min(grass[way][cell], 8 * factor * (10 + wet) / 10);
                    grass[way][cell] -= lost;
                    worn[way] += lost;
                }
            }
            check.due("wear now", x.field(0, 5), worn[0]);
            check.due("wear the other way", x.would(0, 2), worn[1]);
            check.due("mean the other way", x.would(0, 1), java.util.Arrays.stream(grass[1]).sum() / 24);
            check.due("least the other way", x.would(0, 0), java.util.Arrays.stream(grass[1]).min().getAsInt());
            if (day == 6 || day == 9) {
                stand = x.turn(0);
            }
        }
    }

    static void promise14TheSameWeather(Check check) {
        FieldKeeper x = Calls.keeper(1);
        x.game(0, 1, 2, 0, 0, Calls.wish(0, 0));
        x.lay(0);
        for (int day = 0; day < 60; day++) {
            x.day(day % 11, day * 7 % 11);
            check.due("least", x.would(0, 0), x.field(0, 1));
            check.due("mean", x.would(0, 1), x.field(0, 2));
            check.due("wear", x.would(0, 2), x.field(0, 5));
        }
    }

    static void promise14GrassIs0AtLeast(Check check) {
        FieldKeeper x = Calls.keeper(1);
        for (int n = 0; n < 81; n++) {
            x.day(0, 10);
        }
        check.due("least", x.would(0, 0), 0);
        check.due("mean", x.would(0, 1), 0);
        check.due("no wear by weather", x.would(0, 2), 0);
    }

    public static void main(String[] args) {
        Check.runTests(Promise14WouldTest.class);
    }
}
