/** Promise 11: at. */
public final class Promise11AtTest {
    /** Games in the first and the last slot of the first and the last day. */
    private static FieldKeeper corners() {
        FieldKeeper x = Calls.keeper(6);
        for (int n = 0; n < 12; n++) {
            x.game(n % 6 * 2, n % 6 * 2 + 1, 0, 0, n / 6 * 50, n < 6 ? Calls.wish(0, 0) : Calls.wish(6, 3));
        }
        x.lay(0);
        x.lay(50);
        return x;
    }

    static void promise11TheFirstAndTheLastSlot(Check check) {
        FieldKeeper x = corners();
        for (int pitch = 0; pitch < 6; pitch++) {
            check.due("at(0, 0, " + pitch + ")", x.at(0, 0, pitch), pitch);
            check.due("at(356, 3, " + pitch + ")", x.at(356, 3, pitch), 6 + pitch);
        }
        Calls.plainDays(x, 357);
        check.due("was played in the first", x.at(0, 0, 0), 0);
        check.due("was played in the last", x.at(356, 3, 5), 11);
    }

    static void promise11NoSuchDay(Check check) {
        FieldKeeper x = corners();
        for (int day : new int[] {-1, -7, -357, 357, 363, 364, Calls.MIN, Calls.MAX}) {
            for (int pitch = 0; pitch < 6; pitch++) {
                check.none("at(" + day + ", 0, " + pitch + ")", x.at(day, 0, pitch));
                check.none("at(" + day + ", 3, " + pitch + ")", x.at(day, 3, pitch));
            }
        }
    }

    static void promise11NoSuchHour(Check check) {
        FieldKeeper x = corners();
        for (int hour : new int[] {-1, -4, 4, 7, Calls.MIN, Calls.MAX}) {
            check.none("at(0, " + hour + ", 0)", x.at(0, hour, 0));
            check.none("at(356, " + hour + ", 5)", x.at(356, hour, 5));
        }
    }

    static void promise11NoSuchPitch(Check check) {
        FieldKeeper x = corners();
        for (int pitch : new int[] {-1, -6, 6, 11, Calls.MIN, Calls.MAX}) {
            check.none("at(0, 0, " + pitch + ")", x.at(0, 0, pitch));
            check.none("at(356, 3, " + pitch + ")", x.at(356, 3, pitch));
        }
        FieldKeeper one = Calls.keeper(1);
        one.game(0, 1, 0, 0, 0, 1);
        one.lay(0);
        check.due("the one pitch", one.at(0, 0, 0), 0);
        check.none("the next", one.at(0, 0, 1));
        check.none("without a pitch", new FieldKeeper().at(0, 0, 0));
    }

    /** A number beyond its end is not the first of the next hour, day or week, nor one below 0 the last before. */
    static void promise11NoSlotRunsIntoTheNext(Check check) {
        FieldKeeper x = Calls.keeper(6);
        x.game(0, 1, 0, 0, 0, Calls.wish(1, 1));
        x.game(2, 3, 0, 0, 1, Calls.wish(0, 0));
        x.lay(0);
        x.lay(1);
        check.due("at(1, 1, 0)", x.at(1, 1, 0), 0);
        check.due("at(7, 0, 0)", x.at(7, 0, 0), 1);
        check.none("at(1, 0, 6)", x.at(1, 0, 6));
        check.none("at(0, 5, 0)", x.at(0, 5, 0));
        check.none("at(1, 2, -6)", x.at(1, 2, -6));
        check.none("at(2, -3, 0)", x.at(2, -3, 0));
        check.none("at(6, 4, 0)", x.at(6, 4, 0));
        check.none("at(8, -4, 0)", x.at(8, -4, 0));
        check.none("at(8, 1, 0)", x.at(8, 1, 0));
        check.none("at(0, 0, 0)", x.at(0, 0, 0));
    }

    static void promise11TheHoursBesideADay(Check check) {
        FieldKeeper x = Calls.keeper(6);
        for (int n = 0; n < 6; n++) {
            x.game(2 * n, 2 * n + 1, 0, 0, 0, Calls.wish(1, 0));
            x.game(2 * n, 2 * n + 1, 0, 0, 0, Calls.wish(2, 3));
        }
        x.lay(0);
        for (int pitch = 0; pitch < 6; pitch++) {
            check.due("day 1's first hour", x.at(1, 0, pitch), 2 * pitch);
            check.none("day 0's hour 4", x.at(0, 4, pitch));
            check.due("day 2's last hour", x.at(2, 3, pitch), 2 * pitch + 1);
            check.none("day 3's hour -1", x.at(3, -1, pitch));
        }
    }

    /** A game without a slot lies in none, not in the one before the first either. */
    static void promise11NewGamesLieNowhere(Check check) {
        for (int day = -8; day <= 364; day++) {
            FieldKeeper x = Calls.keeper(6);
            x.game(0, 1, 0, 0, 0, 1);
            x.game(0, 1, 0, 0, 50, 1);
            for (int hour = -1; hour <= 4; hour++) {
                for (int pitch = -1; pitch <= 6; pitch++) {
                    check.none("at(" + day + ", " + hour + ", " + pitch + ")", x.at(day, hour, pitch));
                }
            }
        }
    }

    static void promise11AnEmptySlot(Check check) {
        FieldKeeper x = corners();
        check.none("another hour", x.at(0, 1, 0));
        check.none("another day", x.at(1, 0, 0));
        check.none("another week", x.at(7, 0, 0));
        check.none("the last day's other hour", x.at(356, 2, 5));
    }

    static void promise11NewMovedAndCalledOffGames(Check check) {
        FieldKeeper x = Calls.keeper(1);
        x.game(0, 1, 0, 0, 0, Calls.wish(5, 0));
        check.none("NEW", x.at(5, 0, 0));
        x.lay(0);
        check.due("LAID", x.at(5, 0, 0), 0);
        Calls.read(x, "shut all when 1;");
        Calls.plainDays(x, 6);
        check.none("where it was moved from", x.at(5, 0, 0));
        check.due("where it was moved to", x.at(6, 0, 0), 0);
        x.day(0, 0);
        check.none("CALLED OFF", x.at(6, 0, 0));
    }

    public static void main(String[] args) {
        Check.runTests(Promise11AtTest.class);
    }
}
