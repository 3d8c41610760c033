/** Promise 4: lay. A place is told as day, hour, pitch in one number (Calls.place). */
public final class Promise04LayTest {
    private static int wish(int day, int hour) {
        return Calls.wish(day, hour);
    }

    static void promise4WeeksAre0To50(Check check) {
        FieldKeeper x = new FieldKeeper();
        for (int week : new int[] {-1, 51, Calls.MIN, Calls.MAX, Calls.MAX / 7, 306783379}) {
            check.none("lay(" + week + ")", x.lay(week));
        }
        for (int week : new int[] {0, 1, 49, 50}) {
            check.due("lay(" + week + ")", x.lay(week), 0);
        }
    }

    static void promise4AWeekThatIsOver(Check check) {
        FieldKeeper x = new FieldKeeper();
        x.game(0, 1, 0, 0, 0, 1);
        x.game(0, 1, 0, 0, 1, 1);
        for (int day = 0; day < 7; day++) {
            check.due("week 0 with " + day + " days over", x.lay(0), 1);
            x.day(0, 0);
        }
        check.none("week 0 with 7 days over", x.lay(0));
        check.due("week 1 then", x.lay(1), 1);
        check.due("both are NEW", x.count(3), 2);
    }

    static void promise4TheLastWeekIsOver(Check check) {
        FieldKeeper x = Calls.keeper(1);
        x.game(0, 1, 0, 0, 50, wish(6, 3));
        Calls.plainDays(x, 356);
        check.none("week 49 with 356 days over", x.lay(49));
        check.due("week 50 with 356 days over", x.lay(50), 0);
        check.due("the last slot of all", Calls.place(x, 0), 35630);
        x.day(0, 0);
        check.none("week 50 with 357 days over", x.lay(50));
        check.due("played", Calls.look(x, 0, 0), 2);
    }

    static void promise4AnEmptyWeek(Check check) {
        FieldKeeper x = Calls.keeper(1);
        x.game(0, 1, 0, 0, 1, 1);
        check.due("lay(0)", x.lay(0), 0);
        check.due("lay(2)", x.lay(2), 0);
        check.due("the other week's game stays NEW", x.count(3), 1);
        check.due("lay(1)", x.lay(1), 0);
        check.due("it lies", Calls.place(x, 0), 700);
    }

    static void promise4WithoutAPitch(Check check) {
        FieldKeeper x = new FieldKeeper();
        x.game(0, 1, 0, 0, 0, Calls.ALL_WISHES);
        check.due("lay(0)", x.lay(0), 1);
        check.due("it stays NEW", Calls.look(x, 0, 0), 0);
    }

    static void promise4TheAnswerIsOfTheWeekAlone(Check check) {
        FieldKeeper x = Calls.keeper(1);
        x.game(0, 1, 0, 0, 0, 1);
        x.game(2, 3, 0, 0, 0, 1);
        x.game(4, 5, 0, 0, 0, 1);
        x.game(6, 7, 0, 0, 1, 1);
        check.due("two of three are NEW", x.lay(0), 2);
        check.due("in all three", x.count(3), 3);
        check.due("again, the same", x.lay(0), 2);
        check.due("the other week", x.lay(1), 0);
    }

    static void promise4EachWishIsItsHour(Check check) {
        for (int bit = 0; bit < 28; bit++) {
            FieldKeeper x = Calls.keeper(1);
            x.game(0, 1, 0, 0, 3, 1 << bit);
            check.due("lay(3)", x.lay(3), 0);
            check.due("wish " + bit, Calls.place(x, 0), (21 + bit / 4) * 100 + bit % 4 * 10);
        }
    }

    static void promise4TheGreaterRankIsFirst(Check check) {
        for (int rank = 0; rank < 9; rank++) {
            FieldKeeper x = Calls.keeper(1);
            x.game(0, 1, 0, rank, 0, 1);
            x.game(2, 3, 0, rank + 1, 0, 1);
            check.due("one is left", x.lay(0), 1);
            check.due("rank " + (rank + 1), Calls.place(x, 1), 0);
            check.due("rank " + rank, Calls.look(x, 0, 0), 0);
        }
    }

    static void promise4OfOneRankTheLesserNumberIsFirst(Check check) {
        for (int rank = 0; rank <= 9; rank++) {
            FieldKeeper x = Calls.keeper(1);
            x.game(2, 3, 0, rank, 0, 1);
            x.game(0, 1, 0, rank, 0, 1);
            check.due("one is left", x.lay(0), 1);
            check.due("game 0", Calls.place(x, 0), 0);
            check.due("game 1", Calls.look(x, 1, 0), 0);
        }
    }

    static void promise4DayBeforeHour(Check check) {
        FieldKeeper x = Calls.keeper(1);
        x.game(0, 1, 0, 0, 0, wish(1, 0) | wish(0, 3));
        x.lay(0);
        check.due("the earlier day's last hour", Calls.place(x, 0), 30);
    }

    static void promise4HourBeforePitch(Check check) {
        FieldKeeper x = Calls.keeper(6);
        for (int n = 0; n < 7; n++) {
            x.game(2 * n, 2 * n + 1, 0, 0, 0, wish(0, 0) | wish(0, 1));
        }
        check.due("lay(0)", x.lay(0), 0);
        for (int n = 0; n < 6; n++) {
            check.due("the first hour's pitch " + n, Calls.place(x, n), n);
        }
        check.due("behind the sixth pitch the next hour", Calls.place(x, 6), 10);
    }

    static void promise4DaysThatAreOverAreNoSlots(Check check) {
        for (int over = 1; over < 7; over++) {
            FieldKeeper x = Calls.keeper(1);
            Calls.plainDays(x, over);
            x.game(0, 1, 0, 0, 0, wish(over - 1, 3));
            x.game(2, 3, 0, 0, 0, wish(over - 1, 0) | wish(over, 0));
            check.due("the one is left", x.lay(0), 1);
            check.due("the last day over", Calls.look(x, 0, 0), 0);
            check.due("the first day not begun", Calls.place(x, 1), over * 100);
        }
    }

    static void promise4AFullWeek(Check check) {
        FieldKeeper x = Calls.keeper(1);
        for (int n = 0; n < 29; n++) {
            x.game(n % 8 * 2, n % 8 * 2 + 1, 0, 0, 0, Calls.ALL_WISHES);
        }
        check.due("28 slots", x.lay(0), 1);
        for (int n = 0; n < 28; n++) {
            check.due("game " + n, Calls.place(x, n), n / 4 * 100 + n % 4 * 10);
        }
        check.due("the last game is left", Calls.look(x, 28, 0), 0);
    }

    static void promise4AFullHour(Check check) {
        FieldKeeper x = Calls.keeper(6);
        for (int n = 0; n < 7; n++) {
            x.game(2 * n, 2 * n + 1, 0, 0, 0, wish(3, 2));
        }
        check.due("six pitches", x.lay(0), 1);
        check.due("the sixth game", Calls.place(x, 5), 325);
        check.due("the seventh", Calls.look(x, 6, 0), 0);
    }

    static void promise4AClubHasOneGameADay(Check check) {
        int[][] pairs = {{0, 1, 0, 2}, {0, 1, 2, 0}, {1, 0, 0, 2}, {1, 0, 2, 0}, {15, 14, 15, 13}, {0, 1, 1, 0}};
        for (int[] p : pairs) {
            FieldKeeper x = Calls.keeper(2);
            x.game(p[0], p[1], 0, 0, 0, wish(2, 0));
            x.game(p[2], p[3], 0, 0, 0, wish(2, 3));
            x.game(p[2], p[3], 0, 0, 0, wish(2, 0) | wish(3, 0));
            x.game(p[2], p[3], 0, 0, 1, wish(2, 0));
            check.due("one is left", x.lay(0), 1);
            check.due("the first", Calls.place(x, 0), 200);
            check.due("on the same day", Calls.look(x, 1, 0), 0);
            check.due("on the next", Calls.place(x, 2), 300);
            check.due("in the next week", x.lay(1), 0);
        }
    }

    static void promise4EightGamesADayWithAllClubs(Check check) {
        FieldKeeper x = Calls.keeper(6);
        for (int n = 0; n < 8; n++) {
            x.game(2 * n, 2 * n + 1, 0, 0, 0, 15);
        }
        x.game(0, 15, 0, 0, 0, 15);
        check.due("a ninth has no club left", x.lay(0), 1);
        check.due("the eighth", Calls.place(x, 7), 11);
    }

    static void promise4PitchesByAge(Check check) {
        FieldKeeper x = new FieldKeeper();
        x.pitch(0, 0);
        x.pitch(1, 0);
        x.pitch(2, 0);
        x.game(0, 1, 2, 0, 0, 1);
        x.game(2, 3, 1, 0, 0, 1);
        x.game(4, 5, 0, 0, 0, 1);
        x.game(6, 7, 0, 0, 0, 1);
        check.due("one is left", x.lay(0), 1);
        check.due("age 2", Calls.place(x, 0), 2);
        check.due("age 1", Calls.place(x, 1), 1);
        check.due("age 0", Calls.place(x, 2), 0);
    }

    static void promise4TheFirstThatCanGivesWay(Check check) {
        FieldKeeper x = Calls.keeper(1);
        x.game(0, 1, 0, 9, 0, wish(0, 0));
        x.game(2, 3, 0, 8, 0, wish(0, 1) | wish(0, 3));
        x.game(4, 5, 0, 7, 0, wish(0, 2) | wish(1, 0));
        x.game(6, 7, 0, 0, 0, wish(0, 0) | wish(0, 1) | wish(0, 2));
        check.due("all are laid", x.lay(0), 0);
        check.due("0 has no other wish", Calls.place(x, 0), 0);
        check.due("1 gives way", Calls.place(x, 1), 30);
        check.due("2 needn't", Calls.place(x, 2), 20);
        check.due("3 has the place of 1", Calls.place(x, 3), 10);
        check.due("giving way is no move", Calls.look(x, 1, 4), 0);
    }

    static void promise4OnlyOneGivesWay(Check check) {
        FieldKeeper x = Calls.keeper(1);
        x.game(0, 1, 0, 9, 0, wish(0, 1) | wish(0, 3));
        x.game(2, 3, 0, 8, 0, wish(1, 0) | wish(1, 1));
        x.game(4, 5, 0, 0, 0, wish(0, 1) | wish(1, 0));
        check.due("lay(0)", x.lay(0), 0);
        check.due("0 gives way", Calls.place(x, 0), 30);
        check.due("1 stays, though it could", Calls.place(x, 1), 100);
        check.due("2 has the place of 0", Calls.place(x, 2), 10);
    }

    static void promise4WhereItGoesIsTakenThen(Check check) {
        FieldKeeper x = Calls.keeper(1);
        x.game(0, 1, 0, 9, 0, wish(0, 0) | wish(1, 0));
        x.game(2, 3, 0, 8, 0, wish(0, 0));
        x.game(4, 5, 0, 7, 0, wish(1, 0) | wish(1, 1));
        x.game(0, 6, 0, 6, 0, wish(1, 2));
        check.due("the last has no day without its club", x.lay(0), 1);
        check.due("0 gives way", Calls.place(x, 0), 100);
        check.due("1 has the place of 0", Calls.place(x, 1), 0);
        check.due("2 comes behind 0", Calls.place(x, 2), 110);
        check.due("3 stays NEW", Calls.look(x, 3, 0), 0);
    }

    static void promise4ByNumbersNotByPlaces(Check check) {
        FieldKeeper x = Calls.keeper(1);
        x.game(0, 1, 0, 0, 0, wish(0, 1) | wish(0, 3));
        x.game(2, 3, 0, 9, 0, wish(0, 0) | wish(0, 2));
        check.due("both lie", x.lay(0), 0);
        x.game(4, 5, 0, 0, 0, wish(0, 0) | wish(0, 1));
        check.due("the third, too", x.lay(0), 0);
        check.due("0 gives way though it lies later", Calls.place(x, 0), 30);
        check.due("1 stays", Calls.place(x, 1), 0);
        check.due("2 has the place of 0", Calls.place(x, 2), 10);
    }

    static void promise4AGreaterRankGivesWayToo(Check check) {
        FieldKeeper x = Calls.keeper(1);
        x.game(0, 1, 0, 9, 0, wish(0, 0) | wish(6, 3));
        x.game(2, 3, 0, 0, 0, wish(0, 0));
        check.due("lay(0)", x.lay(0), 0);
        check.due("rank 0", Calls.place(x, 1), 0);
        check.due("rank 9", Calls.place(x, 0), 630);
    }

    static void promise4ItGoesToItsOwnWishesAlone(Check check) {
        FieldKeeper x = Calls.keeper(1);
        x.game(0, 1, 0, 9, 0, wish(0, 0));
        x.game(2, 3, 0, 0, 0, wish(0, 0));
        check.due("all else is free, but not wished", x.lay(0), 1);
        check.due("it stays", Calls.place(x, 0), 0);
        check.due("the other is NEW", Calls.look(x, 1, 0), 0);
    }

    static void promise4NoneOfTwoSteps(Check check) {
        FieldKeeper x = Calls.keeper(1);
        x.game(0, 1, 0, 9, 0, wish(0, 0) | wish(0, 1));
        x.game(2, 3, 0, 8, 0, wish(0, 1) | wish(0, 2));
        x.game(4, 5, 0, 0, 0, wish(0, 0));
        check.due("0 could only go where 1 is", x.lay(0), 1);
        check.due("0", Calls.place(x, 0), 0);
        check.due("1", Calls.place(x, 1), 10);
    }

    static void promise4IfNoneCanAllIsAsItWas(Check check) {
        FieldKeeper x = Calls.keeper(2);
        x.game(0, 1, 0, 5, 0, wish(0, 0));
        x.game(2, 3, 0, 5, 0, wish(0, 0));
        x.game(0, 3, 0, 4, 0, wish(0, 0) | wish(0, 1));
        x.game(4, 5, 0, 3, 0, wish(0, 0));
        check.due("two are left", x.lay(0), 2);
        check.due("0", Calls.place(x, 0), 0);
        check.due("1", Calls.place(x, 1), 1);
        check.due("at(0, 1, 0)", x.at(0, 1, 0), -1);
        x.game(6, 7, 0, 0, 0, wish(0, 0) | wish(0, 1));
        check.due("two are left still", x.lay(0), 2);
        check.due("the hours taken are known still", Calls.place(x, 4), 10);
    }

    static void promise4AnotherWeeksGameDoesNotGiveWay(Check check) {
        FieldKeeper x = Calls.keeper(1);
        x.game(0, 1, 0, 0, 1, wish(0, 0) | wish(0, 1));
        x.lay(1);
        x.game(2, 3, 0, 0, 0, wish(0, 0));
        x.game(4, 5, 0, 0, 0, wish(0, 0));
        check.due("one is left", x.lay(0), 1);
        check.due("the other week's game", Calls.place(x, 0), 700);
        check.due("the first of the week", Calls.place(x, 1), 0);
    }

    static void promise4AClubsDayIsFreed(Check check) {
        FieldKeeper x = Calls.keeper(1);
        x.game(0, 1, 0, 9, 0, wish(0, 0) | wish(0, 1) | wish(1, 2));
        x.game(0, 2, 0, 5, 0, wish(0, 3));
        check.due("lay(0)", x.lay(0), 0);
        check.due("not where the other was", Calls.place(x, 1), 30);
        check.due("the other goes to another day", Calls.place(x, 0), 120);
        check.none("its slot is empty", x.at(0, 0, 0));
    }

    static void promise4NotToTheOneThatItHad(Check check) {
        FieldKeeper x = Calls.keeper(1);
        x.game(0, 1, 0, 9, 0, wish(0, 0) | wish(0, 1));
        x.game(0, 2, 0, 5, 0, wish(0, 3));
        check.due("no day without the club", x.lay(0), 1);
        check.due("all is as it was", Calls.place(x, 0), 0);
    }

    static void promise4ItMayGoToAnEarlierSlot(Check check) {
        FieldKeeper x = Calls.keeper(1);
        x.game(0, 1, 0, 9, 0, wish(0, 0) | wish(1, 0));
        x.game(2, 3, 0, 8, 0, wish(0, 0) | wish(0, 1));
        x.game(0, 4, 0, 7, 0, wish(0, 2));
        check.due("0 gives way to 2 by its club", x.lay(0), 0);
        check.due("1 lies in the second hour", Calls.place(x, 1), 10);
        check.none("the first is free", x.at(0, 0, 0));
        x.game(5, 6, 0, 0, 0, wish(0, 1));
        check.due("lay(0)", x.lay(0), 0);
        check.due("1 comes to the first hour", Calls.place(x, 1), 0);
        check.due("3 has its place", Calls.place(x, 3), 10);
    }

    static void promise4TheSlotThatBecomesFreeMustTakeTheAge(Check check) {
        FieldKeeper x = new FieldKeeper();
        x.pitch(0, 0);
        x.pitch(2, 0);
        x.game(0, 1, 0, 9, 0, wish(0, 0) | wish(2, 0));
        x.game(2, 3, 0, 8, 0, wish(0, 0) | wish(1, 0));
        x.game(4, 5, 1, 0, 0, wish(0, 0));
        check.due("lay(0)", x.lay(0), 0);
        check.due("0 lies where the age can't", Calls.place(x, 0), 0);
        check.due("1 gives way", Calls.place(x, 1), 100);
        check.due("2", Calls.place(x, 2), 1);
    }

    static void promise4NoGivingWayIntoDaysThatAreOver(Check check) {
        FieldKeeper x = Calls.keeper(1);
        Calls.plainDays(x, 2);
        x.game(0, 1, 0, 4, 0, wish(0, 0) | wish(1, 3) | wish(2, 1));
        x.game(2, 3, 0, 0, 0, wish(2, 1));
        check.due("one is left", x.lay(0), 1);
        check.due("it lies there still", Calls.place(x, 0), 210);
        x.game(4, 5, 0, 4, 0, wish(1, 0) | wish(3, 0) | wish(4, 0));
        x.game(6, 7, 0, 4, 0, wish(3, 0));
        check.due("lay(0)", x.lay(0), 1);
        check.due("a later day will do", Calls.place(x, 2), 400);
    }

    static void promise4LaidGamesStayWhereTheyAre(Check check) {
        FieldKeeper x = Calls.keeper(1);
        x.game(0, 1, 0, 0, 0, wish(0, 0) | wish(0, 1));
        x.lay(0);
        x.game(2, 3, 0, 9, 0, wish(0, 0) | wish(0, 1));
        check.due("lay(0)", x.lay(0), 0);
        check.due("the one that lay", Calls.place(x, 0), 0);
        check.due("the greater rank behind it", Calls.place(x, 1), 10);
    }

    static void promise4AMovedGameGivesWayToItsWishes(Check check) {
        FieldKeeper x = Calls.keeper(1);
        x.game(0, 1, 0, 0, 0, wish(0, 0) | wish(1, 2));
        x.lay(0);
        Calls.read(x, "shut 0 when day = 0;");
        x.day(0, 0);
        check.due("moved", Calls.place(x, 0), 100);
        x.game(2, 3, 0, 0, 0, wish(1, 0));
        check.due("lay(0)", x.lay(0), 0);
        check.due("it gives way", Calls.place(x, 0), 120);
        check.due("that is no move by a shut hour", Calls.look(x, 0, 4), 1);
    }

    static void promise4ACalledOffGameIsNotLaidAgain(Check check) {
        FieldKeeper x = Calls.keeper(1);
        x.game(0, 1, 0, 0, 0, wish(5, 0) | wish(6, 0));
        for (int hour = 0; hour < 4; hour++) {
            x.game(2 + 2 * hour, 3 + 2 * hour, 0, 0, 0, wish(6, hour));
        }
        check.due("lay(0)", x.lay(0), 0);
        Calls.plainDays(x, 5);
        Calls.read(x, "shut 0 when day = 5;");
        x.day(0, 0);
        check.due("CALLED OFF", Calls.look(x, 0, 0), 3);
        check.due("lay(0)", x.lay(0), 0);
        check.due("it stays so", Calls.look(x, 0, 0), 3);
        x.game(0, 1, 0, 0, 0, wish(6, 0));
        check.due("a new one finds no slot", x.lay(0), 1);
    }

    static void promise4PlayedGamesStay(Check check) {
        FieldKeeper x = Calls.keeper(1);
        x.game(0, 1, 0, 0, 0, wish(0, 0) | wish(1, 0));
        x.lay(0);
        x.day(0, 0);
        x.game(0, 2, 0, 0, 0, wish(0, 1) | wish(1, 0));
        check.due("lay(0)", x.lay(0), 0);
        check.due("PLAYED", Calls.look(x, 0, 0), 2);
        check.due("where it was", Calls.place(x, 0), 0);
        check.due("its club's next day", Calls.place(x, 1), 100);
    }

    public static void main(String[] args) {
        Check.runTests(Promise04LayTest.class);
    }
}
