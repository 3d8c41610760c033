/** Promises 10, 11, 12, 15: look, at, club, count. */
public final class LookTest {
    private static final Check CHECK = new Check();

    private static int wish(int day, int hour) {
        return 1 << 4 * day + hour;
    }

    private static FieldKeeper threeGames() {
        FieldKeeper x = new FieldKeeper();
        x.pitch(2, 0);
        x.pitch(2, 1);
        x.game(0, 15, 0, 9, 1, wish(0, 3));
        x.game(1, 14, 0, 8, 1, wish(0, 3) | wish(6, 3));
        x.game(2, 13, 0, 7, 1, wish(6, 3));
        x.game(2, 12, 0, 6, 1, wish(6, 2));
        return x;
    }

    private static void looks() {
        FieldKeeper x = threeGames();
        CHECK.due("NEW", Check.look(x, 0, 0), 0);
        CHECK.due("no day", Check.look(x, 0, 1), -1);
        CHECK.due("no hour", Check.look(x, 0, 2), -1);
        CHECK.due("no pitch", Check.look(x, 0, 3), -1);
        CHECK.due("no moves", Check.look(x, 0, 4), 0);
        int[][] wrong = {{-1, 0}, {4, 0}, {60, 0}, {0, -1}, {0, 5}, {Integer.MAX_VALUE, 0}, {0, Integer.MIN_VALUE}};
        for (int[] w : wrong) {
            CHECK.due("look(" + w[0] + ", " + w[1] + ")", Check.look(x, w[0], w[1]), Check.THROWN);
        }
        CHECK.due("one stays NEW", x.lay(1), 1);
        CHECK.due("LAID", Check.look(x, 1, 0), 1);
        CHECK.due("day", Check.look(x, 1, 1), 7);
        CHECK.due("hour", Check.look(x, 1, 2), 3);
        CHECK.due("pitch", Check.look(x, 1, 3), 1);
        CHECK.due("the NEW one", Check.look(x, 3, 0), 0);
        for (int d = 0; d < 8; d++) {
            x.day(5, 5);
        }
        CHECK.due("PLAYED", Check.look(x, 1, 0), 2);
        CHECK.due("where", Check.place(x, 1), 731);
    }

    private static void slots() {
        FieldKeeper x = threeGames();
        x.lay(1);
        CHECK.due("at(7, 3, 0)", x.at(7, 3, 0), 0);
        CHECK.due("at(7, 3, 1)", x.at(7, 3, 1), 1);
        CHECK.due("at(13, 3, 0)", x.at(13, 3, 0), 2);
        CHECK.due("another week", x.at(0, 3, 0), -1);
        CHECK.due("another hour", x.at(7, 2, 0), -1);
        int[][] none = {{-7, 3, 0}, {7, -1, 0}, {7, 4, 0}, {7, 3, -1}, {7, 3, 2}, {7, 2, 6}, {357, 3, 0}, {6, 7, 0},
            {Integer.MAX_VALUE, 0, 0}, {Integer.MIN_VALUE, 0, 0}, {0, Integer.MAX_VALUE, 0}, {0, 0, Integer.MAX_VALUE}};
        for (int[] n : none) {
            CHECK.due("at(" + n[0] + ", " + n[1] + ", " + n[2] + ")", x.at(n[0], n[1], n[2]), -1);
        }
        Check.read(x, "shut 0 when day = 6; shut 1 when day = 6;");
        for (int d = 0; d < 14; d++) {
            x.day(5, 5);
        }
        CHECK.due("was played", x.at(7, 3, 0), 0);
        CHECK.due("was called off", x.at(13, 3, 0), -1);
    }

    private static void clubs() {
        FieldKeeper x = threeGames();
        x.lay(1);
        Check.read(x, "shut 0 when day = 6;");
        for (int d = 0; d < 14; d++) {
            x.day(5, 5);
        }
        CHECK.due("played", x.club(0, 0), 1);
        CHECK.due("played by the second club", x.club(14, 0), 1);
        CHECK.due("none", x.club(2, 0), 0);
        CHECK.due("an hour lost", x.club(13, 1), 1);
        CHECK.due("none lost", x.club(0, 1), 0);
        CHECK.due("called off", x.club(2, 2), 1);
        CHECK.due("none called off", x.club(12, 2), 0);
        for (int what : new int[] {-1, 3, Integer.MAX_VALUE}) {
            CHECK.due("club(0, " + what + ")", x.club(0, what), -1);
        }
        for (int club : new int[] {-1, 16, Integer.MIN_VALUE}) {
            CHECK.due("club(" + club + ", 0)", x.club(club, 0), -1);
        }
    }

    private static void counts() {
        FieldKeeper x = threeGames();
        x.lay(1);
        int[] laid = {2, 4, 0, 1, 3, 0, 0, 0, 0, 0};
        for (int what = 0; what < 10; what++) {
            CHECK.due("count(" + what + ")", x.count(what), laid[what]);
        }
        Check.read(x, "shut 0 when day = 6; shut all when 0;");
        Check.feed(x, "seven..");
        for (int d = 0; d < 14; d++) {
            x.day(5, 5);
        }
        int[] over = {2, 4, 14, 1, 0, 2, 1, 2, 7, 8};
        for (int what = 0; what < 10; what++) {
            CHECK.due("count(" + what + ")", x.count(what), over[what]);
        }
        for (int what : new int[] {-1, 10, Integer.MAX_VALUE, Integer.MIN_VALUE}) {
            CHECK.due("count(" + what + ")", x.count(what), -1);
        }
    }

    public static void main(String[] args) {
        looks();
        slots();
        clubs();
        counts();
        CHECK.finish();
    }
}
