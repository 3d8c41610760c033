/** Promises 1, 2, 3: a new object, pitch, game. */
public final class PitchGameTest {
    private static final Check CHECK = new Check();

    private static void newObject() {
        FieldKeeper x = new FieldKeeper();
        for (int what = 0; what <= 9; what++) {
            CHECK.due("new: count(" + what + ")", x.count(what), 0);
        }
        CHECK.due("new: field", x.field(0, 0), FieldKeeper.NONE);
        CHECK.due("new: at", x.at(0, 0, 0), -1);
        CHECK.due("new: the first day", x.day(0, 0), 0);
    }

    private static void pitches() {
        FieldKeeper x = new FieldKeeper();
        int[][] wrong = {{-1, 0}, {3, 0}, {0, -1}, {0, 2}, {Integer.MAX_VALUE, 1}, {1, Integer.MIN_VALUE}};
        for (int[] w : wrong) {
            CHECK.due("pitch(" + w[0] + ", " + w[1] + ")", x.pitch(w[0], w[1]), -1);
        }
        for (int n = 0; n < 6; n++) {
            CHECK.due("pitch " + n, x.pitch(n % 3, n % 2), n);
            CHECK.due("stand of " + n, x.field(n, 0), n % 2);
        }
        CHECK.due("a seventh", x.pitch(0, 0), -1);
        CHECK.due("count(0)", x.count(0), 6);
        FieldKeeper late = new FieldKeeper();
        CHECK.due("a wrong day is no day", late.day(-1, 0), -1);
        CHECK.due("pitch before", late.pitch(2, 1), 0);
        late.day(0, 5);
        CHECK.due("pitch behind a day", late.pitch(2, 1), -1);
    }

    private static void games() {
        FieldKeeper x = new FieldKeeper();
        int all = (1 << 28) - 1;
        int[][] wrong = {
            {-1, 1, 0, 0, 0, 1}, {16, 1, 0, 0, 0, 1}, {0, -1, 0, 0, 0, 1}, {0, 16, 0, 0, 0, 1}, {7, 7, 0, 0, 0, 1},
            {0, 1, -1, 0, 0, 1}, {0, 1, 3, 0, 0, 1}, {0, 1, 0, -1, 0, 1}, {0, 1, 0, 10, 0, 1},
            {0, 1, 0, 0, -1, 1}, {0, 1, 0, 0, 51, 1}, {0, 1, 0, 0, 0, 0}, {0, 1, 0, 0, 0, all + 1}, {0, 1, 0, 0, 0, -1},
            {0, 1, 0, 0, Integer.MAX_VALUE, 1}, {0, 1, 0, 0, Integer.MIN_VALUE, 1},
            {0, 1, 0, 0, 0, Integer.MIN_VALUE}};
        for (int[] w : wrong) {
            CHECK.due("a wrong game", x.game(w[0], w[1], w[2], w[3], w[4], w[5]), -1);
        }
        CHECK.due("count(1)", x.count(1), 0);
        CHECK.due("the least", x.game(0, 1, 0, 0, 0, 1), 0);
        CHECK.due("the greatest", x.game(15, 14, 2, 9, 50, all), 1);
        CHECK.due("the last wish", x.game(15, 14, 2, 9, 50, 1 << 27), 2);
        CHECK.due("count(3)", x.count(3), 3);
        for (int d = 0; d < 6; d++) {
            x.day(0, 0);
        }
        CHECK.due("a week that goes on", x.game(0, 1, 0, 0, 0, 1), 3);
        x.day(0, 0);
        CHECK.due("a week that is over", x.game(0, 1, 0, 0, 0, 1), -1);
        for (int n = 4; n < 60; n++) {
            CHECK.due("game " + n, x.game(n % 16, (n + 1) % 16, n % 3, n % 10, 1 + n % 50, n), n);
        }
        CHECK.due("a 61st", x.game(0, 1, 0, 0, 1, 1), -1);
        CHECK.due("count(1)", x.count(1), 60);
    }

    public static void main(String[] args) {
        newObject();
        pitches();
        games();
        CHECK.finish();
    }
}
