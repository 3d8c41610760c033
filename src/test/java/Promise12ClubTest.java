/** Promise 12: club. */
public final class Promise12ClubTest {
    static void promise12ClubsAre0To15(Check check) {
        FieldKeeper x = new FieldKeeper();
        for (int what = 0; what <= 2; what++) {
            check.due("club(0, " + what + ")", x.club(0, what), 0);
            check.due("club(15, " + what + ")", x.club(15, what), 0);
            for (int club : new int[] {-1, 16, Calls.MIN, Calls.MAX}) {
                check.none("club(" + club + ", " + what + ")", x.club(club, what));
            }
        }
    }

    static void promise12WhatsAre0To2(Check check) {
        FieldKeeper x = new FieldKeeper();
        for (int what : new int[] {-1, 3, 4, Calls.MIN, Calls.MAX}) {
            check.none("club(0, " + what + ")", x.club(0, what));
            check.none("club(15, " + what + ")", x.club(15, what));
        }
    }

    static void promise12GamesPlayedOfBothClubs(Check check) {
        for (int club = 1; club <= 15; club++) {
            FieldKeeper x = Calls.keeper(1);
            x.game(0, club, 0, 0, 0, Calls.wish(0, 0));
            x.game(club, 0, 0, 0, 0, Calls.wish(1, 0));
            x.lay(0);
            check.due("laid is not played", x.club(club, 0), 0);
            x.day(0, 0);
            check.due("one", x.club(club, 0), 1);
            x.day(0, 0);
            for (int other = 0; other <= 15; other++) {
                check.due("club " + other, x.club(other, 0), other == 0 || other == club ? 2 : 0);
            }
        }
    }

    static void promise12HoursLostAndGamesCalledOff(Check check) {
        FieldKeeper x = Calls.keeper(1);
        x.game(0, 15, 0, 0, 0, Calls.wish(5, 0));
        x.game(15, 7, 0, 0, 0, Calls.wish(6, 1));
        x.lay(0);
        Calls.read(x, "shut 0 when 4 < day;");
        Calls.plainDays(x, 6);
        // Club 15 plays on day 6 already, so that its game of day 5 has nowhere to go.
        check.due("0: hours lost", x.club(0, 1), 1);
        check.due("0: called off", x.club(0, 2), 1);
        check.due("15: hours lost", x.club(15, 1), 1);
        check.due("15: called off", x.club(15, 2), 1);
        check.due("7: hours lost", x.club(7, 1), 0);
        x.day(0, 0);
        check.due("15: hours lost", x.club(15, 1), 2);
        check.due("15: called off", x.club(15, 2), 2);
        check.due("7: hours lost", x.club(7, 1), 1);
        check.due("7: called off", x.club(7, 2), 1);
        check.due("0 is as it was", x.club(0, 1) * 10 + x.club(0, 2), 11);
        check.due("none is played", x.club(15, 0), 0);
    }

    public static void main(String[] args) {
        Check.runTests(Promise12ClubTest.class);
    }
}
