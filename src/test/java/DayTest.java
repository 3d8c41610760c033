/** Promises 7, 8, 9, 13, 14: day, turn, grass, field, would. */
public final class DayTest {
    private static final Check CHECK = new Check();
    private static final int ALL = (1 << 28) - 1;

    private static int wish(int day, int hour) {
        return 1 << 4 * day + hour;
    }

    private static void numbers() {
        FieldKeeper x = new FieldKeeper();
        int[][] wrong = {{-1, 0}, {11, 0}, {0, -1}, {0, 11}, {Integer.MAX_VALUE, 0}, {0, Integer.MIN_VALUE}};
        for (int[] w : wrong) {
            CHECK.due("day(" + w[0] + ", " + w[1] + ")", x.day(w[0], w[1]), -1);
        }
        for (int d = 0; d < 357; d++) {
            CHECK.due("day", x.day(d % 11, d / 11 % 11), d);
        }
        CHECK.due("a 358th", x.day(5, 5), -1);
        CHECK.due("days over", x.count(2), 357);
        CHECK.due("the last week is over", x.lay(50), -1);
    }

    /** Each weather once, on grass of 800. */
    private static void weather() {
        for (int warm = 0; warm <= 10; warm++) {
            for (int wet = 0; wet <= 10; wet++) {
                FieldKeeper x = new FieldKeeper();
                x.pitch(0, 0);
                x.day(warm, wet);
                int left = wet >= 9 ? 790 : 800;
                int off = wet < 5 ? 5 - wet : wet - 5;
                int due = left + (1000 - left) * warm * (10 - 2 * off) / 2000;
                CHECK.due("grass behind warm " + warm + ", wet " + wet, x.grass(0, 3, 5), due);
                CHECK.due("the other way, too", x.would(0, 1), due);
                CHECK.due("no wear by weather", x.field(0, 5), 0);
            }
        }
        FieldKeeper x = new FieldKeeper();
        x.pitch(0, 0);
        for (int d = 0; d < 80; d++) {
            x.day(10, 10);
        }
        CHECK.due("drowned", x.grass(0, 0, 0), 0);
        x.day(10, 9);
        CHECK.due("not under 0, and then it grows", x.grass(0, 0, 0), 10);
        x.day(10, 9);
        CHECK.due("by what is left", x.grass(0, 0, 0), 10);
    }

    private static FieldKeeper played(int stand, int age, int wet) {
        FieldKeeper x = new FieldKeeper();
        x.pitch(2, stand);
        x.game(0, 1, age, 0, 0, 1);
        x.lay(0);
        x.day(0, wet);
        return x;
    }

    private static int factor(int stand, int row, int column) {
        boolean inner = row == 1 || row == 2;
        boolean middle = column == 2 || column == 3;
        if (stand == 0 && inner && (column == 0 || column == 5) || stand == 1 && middle && !inner) {
            return 3;
        }
        return inner && middle ? 2 : 1;
    }

    private static void wear() {
        for (int code = 0; code < 2 * 3 * 9; code++) {
            int stand = code % 2;
            int age = code / 2 % 3;
            int wet = code / 6;
            FieldKeeper x = played(stand, age, wet);
            int sum = 0;
            for (int cell = 0; cell < 24; cell++) {
                int lost = (4 + 2 * age) * factor(stand, cell / 6, cell % 6) * (10 + wet) / 10;
                sum += lost;
                CHECK.due("cell " + cell + " of stand " + stand, x.grass(0, cell / 6, cell % 6), 800 - lost);
            }
            int most = (4 + 2 * age) * 3 * (10 + wet) / 10;
            CHECK.due("wear", x.field(0, 5), sum);
            CHECK.due("least", x.field(0, 1), 800 - most);
            CHECK.due("mean", x.field(0, 2), (800 * 24 - sum) / 24);
            CHECK.due("played", x.field(0, 3), 1);
            CHECK.due("shut", x.field(0, 4), 0);
        }
    }

    private static void wornOut() {
        FieldKeeper x = new FieldKeeper();
        x.pitch(2, 0);
        for (int n = 0; n < 60; n++) {
            x.game(n % 4 * 2, n % 4 * 2 + 1, 2, 0, n / 28, ALL);
        }
        for (int d = 0; d < 21; d++) {
            x.lay(d / 7);
            x.day(0, 8);
        }
        CHECK.due("games", x.count(5), 60);
        CHECK.due("a cell at 0", x.grass(0, 1, 0), 0);
        CHECK.due("the others", x.grass(0, 0, 0), 0);
        CHECK.due("truly lost", x.field(0, 5), 800 * 24);
        CHECK.due("the other way, too", x.would(0, 2), 800 * 24);
    }

    private static void turning() {
        FieldKeeper x = new FieldKeeper();
        CHECK.due("turn(0) of none", x.turn(0), -1);
        x.pitch(2, 0);
        CHECK.due("turn(-1)", x.turn(-1), -1);
        CHECK.due("turn(6)", x.turn(6), -1);
        CHECK.due("turned", x.turn(0), 1);
        CHECK.due("stand", x.field(0, 0), 1);
        x.game(0, 1, 0, 0, 0, 1);
        x.game(0, 1, 0, 0, 0, wish(1, 0));
        x.game(0, 1, 0, 0, 0, wish(2, 0));
        x.lay(0);
        x.day(0, 0);
        CHECK.due("worn as it stands", x.grass(0, 0, 2), 788);
        CHECK.due("worn as it stands", x.grass(0, 1, 0), 796);
        CHECK.due("back", x.turn(0), 0);
        x.day(0, 0);
        x.day(0, 0);
        CHECK.due("0, 2", x.grass(0, 0, 2), 780);
        CHECK.due("1, 0", x.grass(0, 1, 0), 772);
        CHECK.due("least", x.field(0, 1), 772);
        CHECK.due("the other way: two games in stand 1, one in 0", x.would(0, 0), 772);
        CHECK.due("turn behind all", x.turn(0), 1);
        CHECK.due("changes no grass", x.field(0, 1), 772);
    }

    private static void grassAndWhats() {
        FieldKeeper x = new FieldKeeper();
        CHECK.due("grass of none", x.grass(0, 0, 0), -1);
        x.pitch(0, 1);
        int[][] wrong = {{-1, 0, 0}, {1, 0, 0}, {0, -1, 0}, {0, 4, 0}, {0, 0, -1}, {0, 0, 6}, {0, Integer.MAX_VALUE, 0}};
        for (int[] w : wrong) {
            CHECK.due("grass of none such", x.grass(w[0], w[1], w[2]), -1);
        }
        CHECK.due("at first", x.grass(0, 3, 5), 800);
        for (int what : new int[] {-1, 6, Integer.MAX_VALUE, Integer.MIN_VALUE}) {
            CHECK.due("field(0, " + what + ")", x.field(0, what), -1);
            CHECK.due("would(0, " + what + ")", x.would(0, what), -1);
        }
        CHECK.due("would(0, 3)", x.would(0, 3), -1);
        for (int pitch : new int[] {-1, 1, 6, Integer.MAX_VALUE}) {
            CHECK.due("field of " + pitch, x.field(pitch, 0), -1);
            CHECK.due("would of " + pitch, x.would(pitch, 0), -1);
        }
        CHECK.due("would: least", x.would(0, 0), 800);
        CHECK.due("would: mean", x.would(0, 1), 800);
        CHECK.due("would: wear", x.would(0, 2), 0);
    }

    /** A turned pitch differs from what it would be: 3 and 2 meet in other cells. */
    private static void would() {
        FieldKeeper x = new FieldKeeper();
        x.pitch(2, 0);
        for (int n = 0; n < 4; n++) {
            x.game(2 * n, 2 * n + 1, 2, 0, 0, wish(n, 0));
        }
        x.lay(0);
        x.day(0, 0);
        x.day(0, 0);
        x.day(0, 0);
        x.turn(0);
        x.day(0, 0);
        // Now: 3 games in stand 0 (24 a cell of F 3), 1 in stand 1. The other way: 3 in stand 1, 1 in stand 0.
        CHECK.due("least now", x.field(0, 1), 800 - 3 * 24 - 8);
        CHECK.due("least the other way", x.would(0, 0), 800 - 3 * 24 - 8);
        CHECK.due("wear now", x.field(0, 5), 4 * 36 * 8);
        CHECK.due("wear the other way", x.would(0, 2), 4 * 36 * 8);
    }

    /** Where cells come to 0 the two ways differ in wear. */
    private static void wouldDiffers() {
        FieldKeeper x = new FieldKeeper();
        x.pitch(2, 0);
        for (int n = 0; n < 60; n++) {
            x.game(n % 4 * 2, n % 4 * 2 + 1, 2, 0, n / 28, ALL);
        }
        for (int d = 0; d < 14; d++) {
            x.lay(d / 7);
            x.day(0, d < 7 ? 8 : 0);
            if (d == 6 || d == 9) {
                x.turn(0);
            }
        }
        // Stand 0: 7 days of 4 games with 14 by F (wet 8), 4 days with 8 by F; stand 1: 3 days with 8 by F.
        int[] now = new int[24];
        int[] other = new int[24];
        java.util.Arrays.fill(now, 800);
        java.util.Arrays.fill(other, 800);
        int[] worn = new int[2];
        for (int d = 0; d < 14; d++) {
            int stand = d >= 7 && d < 10 ? 1 : 0;
            for (int cell = 0; cell < 24 * 4; cell++) {
                int c = cell % 24;
                int wet = d < 7 ? 8 : 0;
                int a = Math.min(now[c], 8 * factor(stand, c / 6, c % 6) * (10 + wet) / 10);
                int b = Math.min(other[c], 8 * factor(1 - stand, c / 6, c % 6) * (10 + wet) / 10);
                now[c] -= a;
                other[c] -= b;
                worn[0] += a;
                worn[1] += b;
            }
        }
        CHECK.due("games", x.count(5), 56);
        CHECK.due("wear now", x.field(0, 5), worn[0]);
        CHECK.due("wear the other way", x.would(0, 2), worn[1]);
        CHECK.due("mean now", x.field(0, 2), java.util.Arrays.stream(now).sum() / 24);
        CHECK.due("mean the other way", x.would(0, 1), java.util.Arrays.stream(other).sum() / 24);
    }

    private static void shutHours() {
        FieldKeeper x = new FieldKeeper();
        x.pitch(2, 0);
        x.pitch(0, 0);
        Check.read(x, "shut 0 when hour = 1 and 6 < wet; shut 0 when 0 < age; shut 1 when day = 6; shut 3 when 1;");
        x.game(0, 1, 0, 0, 0, wish(0, 1));
        x.game(2, 3, 1, 0, 0, wish(0, 2));
        x.game(4, 5, 0, 0, 0, wish(1, 0));
        CHECK.due("lay", x.lay(0), 0);
        x.day(0, 7);
        CHECK.due("two hours of pitch 0", x.field(0, 4), 2);
        CHECK.due("none of pitch 1", x.field(1, 4), 0);
        CHECK.due("to the first slot of the next day, its wish or not", Check.place(x, 0), 101);
        CHECK.due("then one hour later", Check.place(x, 1), 110);
        CHECK.due("moved", Check.look(x, 0, 4), 1);
        CHECK.due("a club's hour", x.club(1, 1), 1);
        CHECK.due("and no game called off", x.club(1, 2), 0);
        x.day(0, 0);
        CHECK.due("an age of 1 is sent on", Check.place(x, 1), 200);
        for (int d = 2; d < 7; d++) {
            x.day(0, 0);
        }
        CHECK.due("called off on the last day", Check.look(x, 1, 0), 3);
        CHECK.due("no place", Check.place(x, 1), -1);
        CHECK.due("six moves", Check.look(x, 1, 4), 6);
        CHECK.due("seven hours lost", x.club(3, 1), 7);
        CHECK.due("a game off", x.club(2, 2), 1);
        CHECK.due("hours of pitch 0", x.field(0, 4), 8);
        CHECK.due("hours of pitch 1", x.field(1, 4), 4);
        CHECK.due("in all", x.count(9), 12);
        CHECK.due("played", x.count(5), 2);
    }

    /** played is of the week, and grows within a day; least falls within a day. */
    private static void whatLinesSee() {
        FieldKeeper x = new FieldKeeper();
        x.pitch(2, 0);
        for (int n = 0; n < 4; n++) {
            x.game(2 * n, 2 * n + 1, 0, 0, 0, 15);
            x.game(2 * n, 2 * n + 1, 0, 0, 1, 15);
        }
        x.lay(0);
        x.lay(1);
        Check.read(x, "shut all when played = 2 and day = 0;");
        x.day(0, 0);
        CHECK.due("two of four", x.count(5), 2);
        CHECK.due("two hours", x.count(9), 2);
        for (int d = 1; d < 7; d++) {
            x.day(0, 0);
        }
        CHECK.due("the others later", x.count(5), 4);
        x.day(0, 0);
        CHECK.due("the next week counts anew", x.count(5), 6);
        FieldKeeper y = new FieldKeeper();
        y.pitch(2, 0);
        y.game(0, 1, 0, 0, 0, 1);
        y.lay(0);
        Check.read(y, "shut 0 when least < 783 and mean = 791;");
        y.day(10, 5);
        CHECK.due("grass as it is in the hour", y.field(0, 4), 3);
    }

    /** A club never has two games on a day, also where a game is moved to. */
    private static void movedPastBusyDays() {
        FieldKeeper x = new FieldKeeper();
        x.pitch(1, 0);
        x.pitch(0, 0);
        x.game(0, 1, 1, 0, 0, wish(0, 0));
        x.game(0, 2, 0, 0, 0, wish(1, 0));
        x.game(1, 3, 0, 0, 0, wish(2, 3));
        for (int hour = 0; hour < 4; hour++) {
            x.game(4 + 2 * hour, 5 + 2 * hour, 1, 0, 0, wish(3, hour));
        }
        CHECK.due("lay", x.lay(0), 0);
        Check.read(x, "shut 0 when day = 0;");
        x.day(0, 0);
        CHECK.due("past two busy days and a full pitch", Check.place(x, 0), 400);
        CHECK.due("four hours", x.count(9), 4);
    }

    public static void main(String[] args) {
        numbers();
        weather();
        wear();
        wornOut();
        turning();
        grassAndWhats();
        would();
        wouldDiffers();
        shutHours();
        whatLinesSee();
        movedPastBusyDays();
        CHECK.finish();
    }
}
