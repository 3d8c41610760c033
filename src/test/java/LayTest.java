/** Promise 4: lay. A place is told as day, hour, pitch in one number (Check.place). */
public final class LayTest {
    private static final Check CHECK = new Check();

    private static int wish(int day, int hour) {
        return 1 << 4 * day + hour;
    }

    private static void wrongWeeks() {
        FieldKeeper x = new FieldKeeper();
        CHECK.due("lay(-1)", x.lay(-1), -1);
        CHECK.due("lay(51)", x.lay(51), -1);
        CHECK.due("lay(max)", x.lay(Integer.MAX_VALUE), -1);
        CHECK.due("lay(min)", x.lay(Integer.MIN_VALUE), -1);
        CHECK.due("lay(50)", x.lay(50), 0);
        x.game(0, 1, 0, 0, 0, 1);
        x.game(0, 1, 0, 0, 1, 1);
        CHECK.due("without a pitch", x.lay(0), 1);
        for (int d = 0; d < 7; d++) {
            CHECK.due("lay on day " + d, x.lay(0), 1);
            x.day(0, 0);
        }
        CHECK.due("a week that is over", x.lay(0), -1);
        CHECK.due("the next", x.lay(1), 1);
    }

    private static void firstSlots() {
        FieldKeeper x = new FieldKeeper();
        x.pitch(0, 0);
        x.pitch(2, 0);
        x.pitch(1, 0);
        int early = wish(2, 3) | wish(3, 0);
        x.game(0, 1, 0, 5, 3, early);
        x.game(2, 3, 1, 5, 3, early);
        x.game(4, 5, 1, 5, 3, early);
        x.game(6, 7, 2, 5, 3, early);
        x.game(8, 9, 0, 5, 3, early);
        x.game(0, 9, 0, 5, 3, early);
        CHECK.due("another week", x.lay(2), 0);
        CHECK.due("lay(3)", x.lay(3), 0);
        CHECK.due("1: its age", Check.place(x, 1), 2331);
        CHECK.due("2: the third pitch", Check.place(x, 2), 2332);
        CHECK.due("3: the next day", Check.place(x, 3), 2401);
        CHECK.due("4: then pitch 0", Check.place(x, 4), 2400);
        // Club 0 plays on the one day and club 9 on the other: game 0, first on pitch 0, gives way.
        CHECK.due("5: where 0 was", Check.place(x, 5), 2330);
        CHECK.due("0: the last slot", Check.place(x, 0), 2402);
        CHECK.due("count(4)", x.count(4), 6);
    }

    private static void ranks() {
        FieldKeeper x = new FieldKeeper();
        x.pitch(2, 0);
        int two = wish(0, 0) | wish(0, 1);
        x.game(0, 1, 0, 4, 0, two);
        x.game(2, 3, 0, 9, 0, two);
        x.game(4, 5, 0, 4, 0, two);
        CHECK.due("one too many", x.lay(0), 1);
        CHECK.due("the greatest rank", Check.place(x, 1), 0);
        CHECK.due("then by number", Check.place(x, 0), 10);
        CHECK.due("none is left", Check.place(x, 2), -1);
        CHECK.due("it stays NEW", Check.look(x, 2, 0), 0);
        CHECK.due("again, the same", x.lay(0), 1);
        CHECK.due("laid games stay", Check.place(x, 1), 0);
    }

    private static void daysBegun() {
        FieldKeeper x = new FieldKeeper();
        x.pitch(2, 0);
        x.day(0, 0);
        x.day(0, 0);
        x.game(0, 1, 0, 4, 0, wish(0, 0) | wish(1, 3) | wish(2, 1));
        x.game(2, 3, 0, 4, 0, wish(1, 3));
        CHECK.due("days that are over", x.lay(0), 1);
        CHECK.due("the first not begun", Check.place(x, 0), 210);
        x.game(4, 5, 0, 9, 0, wish(2, 1));
        CHECK.due("who lies can't give way to days begun", x.lay(0), 2);
        CHECK.due("so it lies there", Check.place(x, 0), 210);
    }

    private static void firstThatCanGiveWay() {
        FieldKeeper x = new FieldKeeper();
        x.pitch(2, 0);
        x.game(0, 1, 0, 9, 0, wish(0, 0));
        x.game(2, 3, 0, 8, 0, wish(0, 1) | wish(0, 3));
        x.game(4, 5, 0, 7, 0, wish(0, 2) | wish(1, 0));
        x.game(6, 7, 0, 0, 0, wish(0, 0) | wish(0, 1) | wish(0, 2));
        CHECK.due("all are laid", x.lay(0), 0);
        CHECK.due("0 has no other wish", Check.place(x, 0), 0);
        CHECK.due("1 gives way", Check.place(x, 1), 30);
        CHECK.due("2 needn't", Check.place(x, 2), 20);
        CHECK.due("3 has the place of 1", Check.place(x, 3), 10);
        CHECK.due("giving way is no move", Check.look(x, 1, 4), 0);
    }

    private static void clubsGiveWay() {
        FieldKeeper x = new FieldKeeper();
        x.pitch(2, 0);
        x.game(0, 1, 0, 9, 0, wish(0, 0) | wish(0, 1) | wish(1, 2));
        x.game(0, 2, 0, 5, 0, wish(0, 3));
        CHECK.due("a club's day is freed", x.lay(0), 0);
        CHECK.due("the new one", Check.place(x, 1), 30);
        CHECK.due("the other goes to another day", Check.place(x, 0), 120);
        FieldKeeper y = new FieldKeeper();
        y.pitch(2, 0);
        y.game(0, 1, 0, 9, 0, wish(0, 0) | wish(0, 1));
        y.game(0, 2, 0, 5, 0, wish(0, 3));
        CHECK.due("no day without the club", y.lay(0), 1);
        CHECK.due("all is as it was", Check.place(y, 0), 0);
    }

    private static void playedOnTheDay() {
        FieldKeeper x = new FieldKeeper();
        x.pitch(2, 0);
        x.game(0, 1, 0, 9, 0, wish(0, 0));
        x.lay(0);
        x.day(0, 0);
        x.game(0, 1, 0, 9, 0, wish(0, 1) | wish(1, 0));
        CHECK.due("lay", x.lay(0), 0);
        CHECK.due("on the next day", Check.place(x, 1), 100);
    }

    public static void main(String[] args) {
        wrongWeeks();
        firstSlots();
        ranks();
        daysBegun();
        firstThatCanGiveWay();
        clubsGiveWay();
        playedOnTheDay();
        CHECK.finish();
    }
}
