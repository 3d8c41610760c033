/** Promise 7: day: its number, how the grass grows and how games wear it. */
public final class Promise07WeatherTest {
    /** A keeper with one pitch, 80 days over, and no grass left; week 11 goes on with its day 3. */
    private static FieldKeeper bare() {
        FieldKeeper x = Calls.keeper(1);
        for (int n = 0; n < 80; n++) {
            x.day(0, 10);
        }
        return x;
    }

    static void promise7WarmIs0To10(Check check) {
        FieldKeeper x = new FieldKeeper();
        for (int warm : new int[] {-1, 11, Calls.MIN, Calls.MAX}) {
            check.none("day(" + warm + ", 0)", x.day(warm, 0));
        }
        check.due("day(0, 0)", x.day(0, 0), 0);
        check.due("day(10, 0)", x.day(10, 0), 1);
    }

    static void promise7WetIs0To10(Check check) {
        FieldKeeper x = new FieldKeeper();
        for (int wet : new int[] {-1, 11, Calls.MIN, Calls.MAX}) {
            check.none("day(0, " + wet + ")", x.day(0, wet));
        }
        check.due("day(0, 0)", x.day(0, 0), 0);
        check.due("day(0, 10)", x.day(0, 10), 1);
    }

    static void promise7ARefusedDayChangesNothing(Check check) {
        FieldKeeper x = Calls.keeper(1);
        x.game(0, 1, 0, 0, 0, 1);
        x.lay(0);
        Calls.read(x, "shut 0 when hour = 3;");
        x.day(11, 10);
        x.day(10, 11);
        x.day(-1, 10);
        x.day(10, -1);
        check.due("days over", x.count(2), 0);
        check.due("grass", x.grass(0, 0, 0), 800);
        check.due("the game", Calls.look(x, 0, 0), 1);
        check.due("hours shut", x.count(9), 0);
        check.due("the next day", x.day(0, 0), 0);
    }

    static void promise7DaysAre357(Check check) {
        FieldKeeper x = Calls.keeper(1);
        for (int day = 0; day < 357; day++) {
            check.due("day " + day, x.day(0, 0), day);
            if (day % 7 == 6) {
                check.due("days over", x.count(2), day + 1);
            }
        }
        check.none("a 358th", x.day(0, 0));
        check.none("a 358th with other weather", x.day(10, 10));
        check.due("days over", x.count(2), 357);
        check.due("no grass went or came", x.field(0, 2), 800);
    }

    /** By hand: 200 of 1000 are missing, so that warm 10 and wet 5 bring 10. */
    static void promise7GrowthIsCut(Check check) {
        int[][] due = {{10, 5, 810}, {1, 5, 801}, {0, 5, 800}, {10, 4, 808}, {10, 6, 808}, {1, 4, 800}, {2, 4, 801},
            {5, 4, 804}, {9, 3, 805}, {10, 1, 802}, {5, 1, 801}, {4, 1, 800}, {10, 0, 800}, {10, 8, 804}, {10, 9, 792},
            {10, 10, 790}, {4, 9, 790}, {5, 9, 791}};
        for (int[] d : due) {
            FieldKeeper x = Calls.keeper(1);
            x.day(d[0], d[1]);
            check.due("warm " + d[0] + ", wet " + d[1], x.grass(0, 3, 5), d[2]);
            check.due("its mean", x.field(0, 2), d[2]);
        }
    }

    static void promise7EachWeather(Check check) {
        for (int warm = 0; warm <= 10; warm++) {
            for (int wet = 0; wet <= 10; wet++) {
                FieldKeeper x = Calls.keeper(1);
                x.day(warm, wet);
                int left = wet >= 9 ? 790 : 800;
                int far = wet < 5 ? 5 - wet : wet - 5;
                int due = left + (1000 - left) * warm * (10 - 2 * far) / 2000;
                check.due("warm " + warm + ", wet " + wet, x.grass(0, 0, 0), due);
                check.due("the other way, too", x.would(0, 1), due);
                check.due("no wear by weather", x.field(0, 5), 0);
            }
        }
    }

    /** Grass of many heights, each beside the document's sum. */
    static void promise7ManyDaysOfWeather(Check check) {
        for (int step = 1; step <= 10; step++) {
            FieldKeeper x = Calls.keeper(1);
            int grass = 800;
            for (int day = 0; day < 357; day++) {
                int warm = day * step / 3 % 11;
                int wet = day % 40 < 20 ? 10 - day % 2 : day * 3 % 11;
                int left = wet >= 9 ? Math.max(0, grass - 10) : grass;
                grass = left + (1000 - left) * warm * (10 - 2 * Math.abs(wet - 5)) / 2000;
                x.day(warm, wet);
                // Not each day, so that the object has no more calls than are promised.
                if (day % 3 == step % 3) {
                    check.due("step " + step + ", day " + day, x.grass(0, 2, 1), grass);
                }
            }
        }
    }

    static void promise7Wet9And10Take10Away(Check check) {
        for (int wet = 0; wet <= 10; wet++) {
            FieldKeeper x = Calls.keeper(1);
            x.day(0, wet);
            for (int cell = 0; cell < 24; cell++) {
                check.due("wet " + wet, x.grass(0, cell / 6, cell % 6), wet < 9 ? 800 : 790);
            }
        }
    }

    static void promise7GrassIs0AtLeast(Check check) {
        FieldKeeper x = Calls.keeper(1);
        for (int n = 1; n <= 80; n++) {
            x.day(10, 10);
            check.due("behind " + n + " days", x.grass(0, 0, 0), 800 - 10 * n);
        }
        x.day(10, 10);
        check.due("no less", x.grass(0, 0, 0), 0);
        check.due("least", x.field(0, 1), 0);
        check.due("mean", x.field(0, 2), 0);
    }

    static void promise7LessThan10IsTakenTo0(Check check) {
        int[][] due = {{1, 5, 5, 0}, {2, 5, 10, 0}, {3, 5, 15, 5}, {1, 4, 4, 0}};
        for (int[] d : due) {
            FieldKeeper x = bare();
            x.day(d[0], d[1]);
            check.due("grown", x.grass(0, 0, 0), d[2]);
            x.day(0, 9);
            check.due("10 taken away", x.grass(0, 0, 0), d[3]);
        }
        FieldKeeper x = bare();
        x.day(1, 5);
        x.day(10, 9);
        check.due("first taken to 0, then grown", x.grass(0, 0, 0), 10);
    }

    static void promise7GrassComesToRestBelow1000(Check check) {
        FieldKeeper x = Calls.keeper(1);
        for (int n = 0; n < 357; n++) {
            x.day(10, 5);
        }
        check.due("1000 - g is less than 20", x.field(0, 1), 981);
    }

    private static FieldKeeper played(int stand, int age, int wet) {
        FieldKeeper x = new FieldKeeper();
        x.pitch(2, stand);
        x.game(0, 1, age, 0, 0, 1);
        x.lay(0);
        x.day(0, wet);
        return x;
    }

    static void promise7WearOfEachCell(Check check) {
        for (int code = 0; code < 2 * 3 * 11; code++) {
            int stand = code % 2;
            int age = code / 2 % 3;
            int wet = code / 6;
            FieldKeeper x = played(stand, age, wet);
            int drowned = wet >= 9 ? 10 : 0;
            int sum = 0;
            for (int cell = 0; cell < 24; cell++) {
                int lost = (4 + 2 * age) * Calls.factor(stand, cell / 6, cell % 6) * (10 + wet) / 10;
                sum += lost;
                check.due("cell " + cell + ", stand " + stand, x.grass(0, cell / 6, cell % 6), 800 - lost - drowned);
            }
            check.due("wear in all", x.field(0, 5), sum);
        }
    }

    /** By hand: 4, 6, 8 times F, and a tenth more for each wet. */
    static void promise7WearIsCut(Check check) {
        int[][] due = {{0, 0, 4, 8, 12}, {0, 1, 4, 8, 13}, {0, 2, 4, 9, 14}, {0, 3, 5, 10, 15}, {1, 0, 6, 12, 18},
            {1, 1, 6, 13, 19}, {2, 0, 8, 16, 24}, {2, 8, 14, 28, 43}};
        for (int[] d : due) {
            FieldKeeper x = played(0, d[0], d[1]);
            check.due("F 1", x.grass(0, 0, 0), 800 - d[2]);
            check.due("F 2", x.grass(0, 1, 2), 800 - d[3]);
            check.due("F 3", x.grass(0, 2, 5), 800 - d[4]);
            FieldKeeper y = played(1, d[0], d[1]);
            check.due("F 1", y.grass(0, 1, 0), 800 - d[2]);
            check.due("F 2", y.grass(0, 2, 3), 800 - d[3]);
            check.due("F 3", y.grass(0, 3, 3), 800 - d[4]);
        }
    }

    static void promise7WearEndsAt0(Check check) {
        int[][] due = {{5, 1, 0, 0, 104}, {4, 0, 0, 0, 96}, {8, 4, 0, 0, 128}, {12, 8, 4, 0, 144}};
        for (int[] d : due) {
            FieldKeeper x = bare();
            if (d[0] == 5) {
                x.day(1, 5);
            } else {
                x.day(d[0] / 4, 4);
            }
            check.due("grass", x.field(0, 1), d[0]);
            x.game(0, 1, 0, 0, 11, Calls.wish(4, 0));
            x.lay(11);
            x.day(0, 0);
            check.due("F 1", x.grass(0, 0, 0), d[1]);
            check.due("F 2", x.grass(0, 1, 2), d[2]);
            check.due("F 3", x.grass(0, 1, 0), d[3]);
            check.due("truly lost", x.field(0, 5), d[4]);
            check.due("the other way, too", x.would(0, 2), d[4]);
        }
    }

    static void promise7BareGrassWearsNoMore(Check check) {
        FieldKeeper x = bare();
        x.game(0, 1, 2, 0, 11, Calls.wish(3, 0));
        x.lay(11);
        x.day(0, 8);
        check.due("played", x.field(0, 3), 1);
        check.due("least", x.field(0, 1), 0);
        check.due("wear", x.field(0, 5), 0);
    }

    static void promise7WearComesBeforeGrowth(Check check) {
        FieldKeeper x = Calls.keeper(1);
        x.game(0, 1, 0, 0, 0, Calls.wish(0, 3));
        x.lay(0);
        x.day(10, 5);
        check.due("F 3: 800 - 18, and 218 / 20", x.grass(0, 1, 0), 792);
        check.due("F 1: 800 - 6, and 206 / 20", x.grass(0, 0, 0), 804);
    }

    static void promise7OnlyThePitchOfTheGameWears(Check check) {
        FieldKeeper x = Calls.keeper(3);
        x.game(0, 1, 0, 0, 0, 1);
        x.game(2, 3, 0, 0, 0, 1);
        x.lay(0);
        x.day(0, 0);
        check.due("0", x.field(0, 5), 144);
        check.due("1", x.field(1, 5), 144);
        check.due("2", x.field(2, 5), 0);
    }

    public static void main(String[] args) {
        Check.runTests(Promise07WeatherTest.class);
    }
}
