/** Promise 7: day: which hours a text shuts, and what becomes of the games that lie there. */
public final class Promise07ShutTest {
    private static int wish(int day, int hour) {
        return Calls.wish(day, hour);
    }

    /** The hours of pitch 0 that are shut on a first day with warm 3 and wet 4. */
    private static int hoursShut(String sum) {
        FieldKeeper x = Calls.keeper(1);
        int fault = Calls.read(x, "shut 0 when " + sum + ";");
        x.day(3, 4);
        return fault == 0 ? x.field(0, 4) : -2;
    }

    private static void shut(Check check, String... sums) {
        for (String sum : sums) {
            check.due("hours shut when " + sum, hoursShut(sum), 4);
        }
    }

    private static void open(Check check, String... sums) {
        for (String sum : sums) {
            check.due("hours shut when " + sum, hoursShut(sum), 0);
        }
    }

    static void promise7ShutIfNot0(Check check) {
        open(check, "0", "0000", "1 - 1", "1 - 2 + 1");
        shut(check, "1", "2", "9999", "0 - 1", "1 - 2", "0 - 9999");
    }

    static void promise7Sums(Check check) {
        shut(check, "9 - 3 - 3 = 3", "9 - (3 - 3) = 9", "1 + 2 - 3 + 4 = 4", "1" + "+1".repeat(200) + "=201");
        open(check, "9 - 3 - 3 = 9", "1" + "+1".repeat(200) + "-201");
        shut(check, "9999 + 9999 + 9999 + 9999 = 9999 + 9999 - 0 + 9999 + 9999", "0010 = 10", "0999 < 1000");
        shut(check, "9999" + "+9999".repeat(57) + "-9999".repeat(57) + "=9999");
    }

    static void promise7NumbersGoTo9999(Check check) {
        shut(check, "9999 = 9998 + 1", "9998 < 9999", "9999 - 9998 = 1", "1000 = 999 + 1", "9990 = 9989 + 1");
        open(check, "9999 = 9998", "9999 < 9999", "9999 = wet", "9998 = warm", "9999 = warm", "9999 - 9999");
        for (int digit = 0; digit <= 9; digit++) {
            shut(check, digit + "000 - " + digit + "00 - " + digit + "0 - " + digit + " = " + 889 * digit);
        }
    }

    static void promise7LessAndEqual(Check check) {
        shut(check, "1 < 2", "2 = 2", "2 - 3 < 0", "0 - 2 < 0 - 1", "(1 < 2) = 1", "(2 < 1) = 0", "(2 = 2) + (1 < 2) = 2");
        open(check, "2 < 2", "3 < 2", "2 = 3", "3 = 2", "0 - 1 < 0 - 2", "0 < 0");
    }

    static void promise7And(Check check) {
        shut(check, "2 and 3", "1 and 1 and 1", "0 - 1 and 0 - 2", "(2 and 3) = 1", "1 and 2 = 2 and 3");
        open(check, "2 and 0", "0 and 2", "0 and 0", "1 and 1 and 0", "0 and 1 and 1", "1 and 0 and 1", "1 and 2 = 3");
    }

    static void promise7FivePartsDeep(Check check) {
        shut(check, "2 and 2 = 1 + (2 and 2 = 1 + (2 and 2 = 1 + (2 and 2 = 1 + (2 and 2 = 1 + 1))))", "((((1))))");
        open(check, "2 and 2 = 1 + (2 and 2 = 1 + (2 and 2 = 1 + (2 and 2 = 1 + (2 and 2 = 1 + 2))))", "((((0))))");
    }

    static void promise7WetAndWarmAreTheDays(Check check) {
        shut(check, "wet = 4 and warm = 3", "3 < wet", "wet < 5", "2 < warm", "warm < 4");
        open(check, "wet = 3", "warm = 4", "4 < wet", "3 < warm", "wet < 4", "warm < 3");
        for (int number = 0; number <= 10; number++) {
            FieldKeeper x = Calls.keeper(2);
            Calls.read(x, "shut 0 when wet = " + number + "; shut 1 when warm = " + number + ";");
            for (int day = 0; day <= 10; day++) {
                x.day(10 - day, day);
            }
            check.due("wet = " + number, x.field(0, 4), 4);
            check.due("warm = " + number, x.field(1, 4), 4);
        }
    }

    static void promise7LeastAndMeanAreThePitchs(Check check) {
        FieldKeeper x = Calls.keeper(2);
        x.game(0, 1, 0, 0, 0, wish(0, 1));
        x.lay(0);
        // At wet 1 a game of age 0 takes 4, 8, 13 by F: 148 in all, so that 793.83 is the mean.
        Calls.read(x, "shut all when least = 787 and mean = 793;");
        x.day(10, 1);
        check.due("the two hours behind the game", x.field(0, 4), 2);
        check.due("the other pitch", x.field(1, 4), 0);
    }

    static void promise7LeastAndMeanAtTheirEdges(Check check) {
        int[][] hours = {{787, 0}, {788, 2}};
        for (int[] h : hours) {
            FieldKeeper x = Calls.keeper(1);
            x.game(0, 1, 0, 0, 0, wish(0, 1));
            x.lay(0);
            Calls.read(x, "shut 0 when least < " + h[0] + ";");
            x.day(10, 1);
            check.due("least < " + h[0], x.field(0, 4), h[1]);
        }
        shut(check, "least = 800", "mean = 800", "least + mean = 1600");
    }

    static void promise7PlayedIsOfTheWeek(Check check) {
        FieldKeeper x = Calls.keeper(1);
        for (int n = 0; n < 4; n++) {
            x.game(2 * n, 2 * n + 1, 0, 0, 0, 15);
            x.game(2 * n, 2 * n + 1, 0, 0, 1, 15);
        }
        x.lay(0);
        x.lay(1);
        Calls.read(x, "shut 0 when played = 2 and day = 0;");
        x.day(0, 0);
        check.due("the third and the fourth are shut", x.count(5), 2);
        check.due("two hours", x.count(9), 2);
        Calls.plainDays(x, 6);
        check.due("they are played later", x.count(5), 4);
        x.day(0, 0);
        check.due("the next week counts anew", x.count(5), 6);
        check.due("two hours more", x.count(9), 4);
    }

    static void promise7PlayedEndsWithTheWeek(Check check) {
        FieldKeeper x = Calls.keeper(1);
        x.game(0, 1, 0, 0, 0, wish(0, 0));
        x.lay(0);
        Calls.read(x, "shut 0 when played;");
        x.day(0, 0);
        check.due("behind the game", x.field(0, 4), 3);
        Calls.plainDays(x, 6);
        check.due("to the week's end", x.field(0, 4), 27);
        Calls.plainDays(x, 7);
        check.due("not in the next", x.field(0, 4), 27);
    }

    static void promise7PlayedIsThePitchs(Check check) {
        FieldKeeper x = Calls.keeper(2);
        x.game(0, 1, 0, 0, 0, wish(0, 0));
        x.lay(0);
        Calls.read(x, "shut 1 when played; shut 0 when played = 2;");
        x.day(0, 0);
        check.due("on the other one none", x.count(9), 0);
    }

    static void promise7DayIsOfTheWeek(Check check) {
        for (int day = 0; day <= 7; day++) {
            FieldKeeper x = Calls.keeper(1);
            Calls.read(x, "shut 0 when day = " + day + ";");
            for (int n = 0; n < 15; n++) {
                int before = x.count(9);
                x.day(0, 0);
                check.due("day " + n, x.count(9) - before, n % 7 == day ? 4 : 0);
            }
        }
    }

    static void promise7HoursAre0To3(Check check) {
        for (int hour = 0; hour <= 4; hour++) {
            FieldKeeper x = Calls.keeper(6);
            for (int n = 0; n < 4; n++) {
                x.game(2 * n, 2 * n + 1, 0, 0, 0, wish(6, n));
            }
            x.lay(0);
            Calls.read(x, "shut all when hour = " + hour + ";");
            Calls.plainDays(x, 7);
            check.due("hour = " + hour, x.count(9), hour < 4 ? 42 : 0);
            for (int n = 0; n < 4; n++) {
                check.due("the game of hour " + n, Calls.look(x, n, 0), n == hour ? 3 : 2);
            }
        }
    }

    static void promise7AgeIsMinus1WithoutAGame(Check check) {
        for (int age = -1; age <= 3; age++) {
            FieldKeeper x = Calls.keeper(1);
            for (int n = 0; n < 3; n++) {
                x.game(2 * n, 2 * n + 1, n, 0, 0, wish(0, n));
            }
            x.lay(0);
            Calls.read(x, "shut 0 when age + 1 = " + (age + 1) + ";");
            x.day(0, 0);
            check.due("hours of age " + age, x.field(0, 4), age < 3 ? 1 : 0);
            check.due("games played", x.count(5), age >= 0 && age < 3 ? 2 : 3);
        }
    }

    /** A moved game lies there no more, a played one does not lie there on another day. */
    static void promise7AgeOfWhatLiesThereThen(Check check) {
        FieldKeeper x = Calls.keeper(1);
        x.game(0, 1, 0, 0, 0, wish(0, 0));
        x.lay(0);
        Calls.read(x, "shut 0 when age = 0 and day = 0;");
        x.day(0, 0);
        check.due("moved", Calls.place(x, 0), 100);
        Calls.read(x, "shut 0 when 0 < age + 1 and 0 < day - 1;");
        Calls.plainDays(x, 6);
        check.due("hours shut", x.count(9), 1);
        check.due("played", Calls.look(x, 0, 0), 2);
    }

    static void promise7ALineShutsItsPitchAllShutsEach(Check check) {
        for (int pitch = 0; pitch <= 5; pitch++) {
            FieldKeeper x = Calls.keeper(6);
            Calls.read(x, "shut " + pitch + " when 1;");
            x.day(0, 0);
            for (int n = 0; n < 6; n++) {
                check.due("pitch " + n, x.field(n, 4), n == pitch ? 4 : 0);
            }
        }
        FieldKeeper x = Calls.keeper(6);
        Calls.read(x, "shut all when hour < 3;");
        x.day(0, 0);
        for (int n = 0; n < 6; n++) {
            check.due("each, pitch " + n, x.field(n, 4), 3);
        }
    }

    static void promise7APitchThatIsNotThere(Check check) {
        FieldKeeper x = Calls.keeper(5);
        Calls.read(x, "shut 5 when 1;");
        x.day(0, 0);
        check.due("hours shut", x.count(9), 0);
        FieldKeeper none = new FieldKeeper();
        Calls.read(none, "shut all when 1;");
        check.due("no pitch at all", none.day(0, 0), 0);
        check.due("hours shut", none.count(9), 0);
    }

    static void promise7AnHourIsShutOnceByManyLines(Check check) {
        FieldKeeper x = Calls.keeper(1);
        Calls.read(x, "shut 0 when 1; shut all when 1; shut 0 when hour = 2;");
        x.day(0, 0);
        check.due("four hours", x.field(0, 4), 4);
        FieldKeeper y = Calls.keeper(1);
        Calls.read(y, "shut 0 when 0;".repeat(15) + "shut 0 when 1;");
        y.day(0, 0);
        check.due("by the sixteenth line alone", y.field(0, 4), 4);
    }

    static void promise7SixteenLinesOfSums(Check check) {
        for (int line = 0; line < 16; line++) {
            StringBuilder text = new StringBuilder();
            for (int n = 0; n < 16; n++) {
                text.append("shut 0 when 1+(2-").append(n == line ? 2 : 3).append(")=1 and hour=2;");
            }
            FieldKeeper x = Calls.keeper(1);
            check.due("text", Calls.read(x, text.toString()), 0);
            x.day(0, 0);
            check.due("one hour by line " + line, x.field(0, 4), 1);
        }
    }

    static void promise7MovedToALaterDayNotHour(Check check) {
        FieldKeeper x = Calls.keeper(1);
        x.game(0, 1, 0, 0, 0, Calls.ALL_WISHES);
        x.lay(0);
        Calls.read(x, "shut 0 when day = 0 and hour = 0;");
        x.day(0, 0);
        check.due("to the next day", Calls.place(x, 0), 100);
        check.due("LAID", Calls.look(x, 0, 0), 1);
        check.due("moved once", Calls.look(x, 0, 4), 1);
        check.none("the old slot is empty", x.at(0, 0, 0));
        check.due("nothing is worn", x.field(0, 5), 0);
        check.due("each club has lost an hour", x.club(0, 1) * 10 + x.club(1, 1), 11);
        check.due("nothing is called off", x.club(0, 2) + x.club(1, 2), 0);
        x.day(0, 0);
        check.due("played there", Calls.look(x, 0, 0), 2);
        check.due("lost no more", x.club(0, 1), 1);
    }

    static void promise7MovedWhereItDoesNotWish(Check check) {
        FieldKeeper x = Calls.keeper(1);
        x.game(0, 1, 0, 0, 0, wish(2, 3) | wish(3, 3));
        x.lay(0);
        Calls.read(x, "shut 0 when day = 2;");
        Calls.plainDays(x, 3);
        check.due("the first slot of the next day", Calls.place(x, 0), 300);
    }

    static void promise7MovedWhereItWillBeShut(Check check) {
        FieldKeeper x = Calls.keeper(2);
        x.game(0, 1, 0, 0, 0, wish(0, 0));
        x.lay(0);
        Calls.read(x, "shut 0 when 1;");
        for (int day = 0; day < 6; day++) {
            x.day(0, 0);
            check.due("moved again", Calls.place(x, 0), (day + 1) * 100);
            check.due("moves", Calls.look(x, 0, 4), day + 1);
        }
        x.day(0, 0);
        check.due("CALLED OFF on the last day", Calls.look(x, 0, 0), 3);
        check.due("moves", Calls.look(x, 0, 4), 6);
        check.due("hours lost", x.club(0, 1), 7);
        check.due("games called off", x.club(1, 2), 1);
        check.none("no day", Calls.look(x, 0, 1));
    }

    static void promise7TheWeeksLastDay(Check check) {
        for (int week : new int[] {0, 50}) {
            FieldKeeper x = Calls.keeper(1);
            x.game(0, 1, 0, 0, week, wish(5, 3));
            x.game(2, 3, 0, 0, week, wish(6, 0));
            x.lay(week);
            Calls.plainDays(x, week * 7 + 5);
            Calls.read(x, "shut 0 when 1;");
            x.day(0, 0);
            check.due("from its sixth day to its last", Calls.place(x, 0), (week * 7 + 6) * 100 + 10);
            x.day(0, 0);
            check.due("from the last nowhere", Calls.look(x, 0, 0), 3);
            check.due("nor the other", Calls.look(x, 1, 0), 3);
            check.due("it was never moved", Calls.look(x, 1, 4), 0);
            check.due("an hour is lost all the same", x.club(2, 1), 1);
            check.due("count(6)", x.count(6), 2);
        }
    }

    static void promise7MovedPastFullDays(Check check) {
        for (int games = 3; games <= 4; games++) {
            FieldKeeper x = Calls.keeper(1);
            x.game(0, 1, 0, 0, 0, wish(5, 0));
            for (int hour = 0; hour < games; hour++) {
                x.game(2 + 2 * hour, 3 + 2 * hour, 0, 0, 0, wish(6, hour));
            }
            x.lay(0);
            Calls.read(x, "shut 0 when day = 5;");
            Calls.plainDays(x, 6);
            check.due(games + " games on the last day", Calls.look(x, 0, 0), games == 3 ? 1 : 3);
            check.due("its place", Calls.place(x, 0), games == 3 ? 630 : -1);
        }
    }

    static void promise7MovedPastItsClubsDays(Check check) {
        FieldKeeper x = Calls.keeper(2);
        x.game(0, 1, 0, 0, 0, wish(0, 0));
        x.game(0, 2, 0, 0, 0, wish(1, 0));
        x.game(3, 0, 0, 0, 0, wish(2, 0));
        x.game(1, 2, 0, 0, 0, wish(3, 0));
        x.game(3, 1, 0, 0, 0, wish(4, 0));
        x.game(2, 3, 0, 0, 0, wish(5, 0));
        check.due("lay(0)", x.lay(0), 0);
        Calls.read(x, "shut 0 when day = 0;");
        x.day(0, 0);
        check.due("the first day without its clubs", Calls.place(x, 0), 501);
    }

    static void promise7MovedToAPitchOfItsAge(Check check) {
        for (int age = 0; age <= 2; age++) {
            FieldKeeper x = new FieldKeeper();
            x.pitch(0, 0);
            x.pitch(1, 0);
            x.pitch(2, 0);
            x.game(0, 1, age, 0, 0, wish(0, 0));
            x.lay(0);
            Calls.read(x, "shut all when day = 0;");
            x.day(0, 0);
            check.due("age " + age, Calls.place(x, 0), 100 + age);
        }
    }

    static void promise7ACalledOffGameHoldsNoSlot(Check check) {
        FieldKeeper x = Calls.keeper(1);
        x.game(0, 1, 0, 0, 0, wish(5, 0));
        for (int hour = 0; hour < 4; hour++) {
            x.game(2 + 2 * hour, 3 + 2 * hour, 0, 0, 0, wish(6, hour));
        }
        x.lay(0);
        Calls.read(x, "shut 0 when day = 5;");
        Calls.plainDays(x, 6);
        check.none("its slot", x.at(5, 0, 0));
        check.due("CALLED OFF", x.count(6), 1);
        check.due("no more LAID", x.count(4), 4);
        x.text();
        x.day(0, 0);
        check.due("the others are played", x.count(5), 4);
    }

    static void promise7HourByHourThenPitchByPitch(Check check) {
        FieldKeeper x = Calls.keeper(2);
        x.game(0, 1, 0, 9, 0, wish(0, 1));
        x.game(2, 3, 0, 8, 0, wish(0, 1));
        x.game(4, 5, 0, 7, 0, wish(0, 0));
        x.game(6, 7, 0, 6, 0, wish(0, 0));
        x.lay(0);
        Calls.read(x, "shut all when day = 0;");
        x.day(0, 0);
        check.due("hour 0, pitch 0", Calls.place(x, 2), 100);
        check.due("hour 0, pitch 1", Calls.place(x, 3), 101);
        check.due("hour 1, pitch 0", Calls.place(x, 0), 110);
        check.due("hour 1, pitch 1", Calls.place(x, 1), 111);
    }

    /** Pitch 0's first game is moved in hour 0 and so lies before what pitch 1 sends there later. */
    static void promise7AllPitchesOfAnHourBeforeTheNext(Check check) {
        FieldKeeper x = Calls.keeper(2);
        x.game(0, 1, 0, 9, 0, wish(0, 0));
        x.game(2, 3, 0, 8, 0, wish(0, 0));
        x.game(4, 5, 0, 7, 0, wish(0, 1));
        x.lay(0);
        Calls.read(x, "shut all when day = 0;");
        x.day(0, 0);
        check.due("hour 0, pitch 1", Calls.place(x, 1), 101);
        check.due("then hour 1, pitch 0", Calls.place(x, 2), 110);
    }

    static void promise7AShutHourWithoutAGameCounts(Check check) {
        FieldKeeper x = Calls.keeper(1);
        Calls.read(x, "shut 0 when hour = 1;");
        Calls.plainDays(x, 3);
        check.due("hours shut", x.field(0, 4), 3);
        for (int club = 0; club <= 15; club++) {
            check.due("no club has lost one", x.club(club, 1), 0);
        }
    }

    static void promise7NewGamesAreNotPlayed(Check check) {
        FieldKeeper x = Calls.keeper(1);
        x.game(0, 1, 0, 0, 0, Calls.ALL_WISHES);
        Calls.plainDays(x, 8);
        check.due("it stays NEW", Calls.look(x, 0, 0), 0);
        check.due("count(3)", x.count(3), 1);
        check.due("count(5)", x.count(5), 0);
    }

    public static void main(String[] args) {
        Check.runTests(Promise07ShutTest.class);
    }
}
