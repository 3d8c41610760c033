/** Promise 15: count. */
public final class Promise15CountTest {
    private static void counts(Check check, FieldKeeper x, int... due) {
        for (int what = 0; what < due.length; what++) {
            check.due("count(" + what + ")", x.count(what), due[what]);
        }
    }

    static void promise15WhatsAre0To9(Check check) {
        FieldKeeper x = new FieldKeeper();
        check.due("count(0)", x.count(0), 0);
        check.due("count(9)", x.count(9), 0);
        for (int what : new int[] {-1, 10, 11, Calls.MIN, Calls.MAX}) {
            check.none("count(" + what + ")", x.count(what));
        }
    }

    static void promise15EachOfThem(Check check) {
        FieldKeeper x = Calls.keeper(2);
        x.game(0, 1, 0, 0, 0, Calls.wish(0, 3));
        x.game(2, 3, 0, 0, 0, Calls.wish(6, 3));
        x.game(4, 5, 0, 0, 0, Calls.wish(6, 3));
        x.game(6, 7, 0, 0, 0, Calls.wish(6, 3));
        x.game(8, 9, 0, 0, 1, 1);
        counts(check, x, 2, 5, 0, 5, 0, 0, 0, 0, 0, 0);
        x.lay(0);
        counts(check, x, 2, 5, 0, 2, 3, 0, 0, 0, 0, 0);
        Calls.read(x, "shut 0 when day = 6; shut all when 0; shut 5 when 1;");
        Calls.feed(x, "seven..");
        counts(check, x, 2, 5, 0, 2, 3, 0, 0, 3, 7, 0);
        x.day(0, 0);
        counts(check, x, 2, 5, 1, 2, 2, 1, 0, 3, 7, 0);
        Calls.plainDays(x, 6);
        counts(check, x, 2, 5, 7, 2, 0, 2, 1, 3, 7, 4);
        x.text();
        counts(check, x, 2, 5, 7, 2, 0, 2, 1, 3, 0, 4);
        x.text();
        counts(check, x, 2, 5, 7, 2, 0, 2, 1, 0, 0, 4);
    }

    static void promise15FullCounts(Check check) {
        FieldKeeper x = Calls.keeper(7);
        for (int n = 0; n < 61; n++) {
            x.game(0, 1, 0, 0, 0, 1);
        }
        for (int n = 0; n < 17; n++) {
            Calls.feed(x, n < 16 ? "shut 0 when 1;" : "");
        }
        x.text();
        Calls.feed(x, "#".repeat(601));
        counts(check, x, 6, 60, 0, 60, 0, 0, 0, 16, 600, 0);
        Calls.plainDays(x, 358);
        counts(check, x, 6, 60, 357, 60, 0, 0, 0, 16, 600, 357 * 4);
    }

    static void promise15HoursShutAreOfAllPitches(Check check) {
        FieldKeeper x = Calls.keeper(6);
        Calls.read(x, "shut all when hour = 0; shut 5 when 1;");
        x.day(0, 0);
        check.due("count(9)", x.count(9), 5 + 4);
        x.day(0, 0);
        check.due("count(9)", x.count(9), 18);
    }

    public static void main(String[] args) {
        Check.runTests(Promise15CountTest.class);
    }
}
