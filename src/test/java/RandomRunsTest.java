import java.util.Random;

/** All promises: runs of calls by dice (with set seeds), each answer beside PlainKeeper's. */
public final class RandomRunsTest {
    private static final Check CHECK = new Check();
    private static final String[] NAMES = {"wet", "warm", "least", "mean", "played", "day", "hour", "age"};
    private static final String[] TOKENS = {"shut", "all", "when", "and", "(", ")", "<", "=", "+", "-", ";", "0", "5", "6",
        "12345", "0009", "wet", "age", "hours", "abcdefghi", "#", "\n", "Z", "day7", "7day"};

    private final Random dice;
    private final FieldKeeper real = new FieldKeeper();
    private final PlainKeeper plain = new PlainKeeper();
    private final String name;
    private final int weeks;
    private final int clubs;

    private RandomRunsTest(int seed) {
        dice = new Random(seed);
        name = "run " + seed + ": ";
        weeks = seed % 3 == 0 ? 51 : 1 + dice.nextInt(3);
        clubs = seed % 2 == 0 ? 16 : 4 + dice.nextInt(8);
    }

    private int wild(int low, int high) {
        int roll = dice.nextInt(60);
        if (roll == 0) {
            return dice.nextInt();
        }
        return roll == 1 ? low - 1 : roll == 2 ? high + 1 : low + dice.nextInt(high - low + 1);
    }

    private void due(String call, int got, int want) {
        CHECK.due(name + call, got, want);
    }

    private String part(int depth) {
        int roll = dice.nextInt(10);
        if (roll < 4) {
            return NAMES[dice.nextInt(NAMES.length)];
        }
        if (roll < 8 || depth > 4) {
            return String.valueOf(dice.nextInt(dice.nextInt(4) == 0 ? 1000 : 12));
        }
        return "(" + all(depth + 1) + ")";
    }

    private String sum(int depth) {
        StringBuilder s = new StringBuilder(part(depth));
        while (dice.nextInt(3) == 0) {
            s.append(dice.nextBoolean() ? " + " : "-").append(part(depth));
        }
        return s.toString();
    }

    private String all(int depth) {
        StringBuilder s = new StringBuilder(sum(depth));
        for (int n = 0; n < 3; n++) {
            if (dice.nextInt(4) != 0) {
                s.append(dice.nextBoolean() ? "<" : " = ").append(sum(depth));
            }
            if (dice.nextBoolean()) {
                return s.toString();
            }
            s.append(" and ").append(sum(depth));
        }
        return s.toString();
    }

    private String text() {
        StringBuilder s = new StringBuilder();
        int lines = dice.nextInt(8) == 0 ? dice.nextInt(19) : dice.nextInt(4);
        for (int n = 0; n < lines; n++) {
            String which = dice.nextInt(3) == 0 ? "all" : String.valueOf(dice.nextInt(dice.nextInt(9) == 0 ? 8 : 6));
            String sum = lines > 5 ? part(5) : dice.nextInt(3) == 0 ? "(" + all(0) + ") and wet = " + dice.nextInt(11) : all(0);
            s.append("shut ").append(which).append(" when ").append(sum).append(dice.nextBoolean() ? ";" : " ;\n");
        }
        if (dice.nextInt(4) == 0) {
            int from = dice.nextInt(s.length() + 1);
            int to = Math.min(s.length(), from + dice.nextInt(3));
            s.replace(from, to, dice.nextBoolean() ? TOKENS[dice.nextInt(TOKENS.length)] : "");
        }
        return s.toString();
    }

    private void feed(String text) {
        for (int from = 0; from < text.length(); from += 24) {
            long a = Calls.pack(text, from);
            long b = Calls.pack(text, from + 8);
            long c = Calls.pack(text, from + 16);
            due("feed", real.feed(a, b, c), plain.feed(a, b, c));
        }
    }

    private void addGame() {
        int a = wild(0, clubs - 1);
        int b = wild(0, clubs - 1);
        int age = wild(0, 2);
        int rank = wild(0, 9);
        int week = wild(plain.days / 7, Math.min(50, plain.days / 7 + weeks - 1));
        int sort = dice.nextInt(4);
        int wishes = sort == 0 ? wild(1, (1 << 28) - 1) : 0;
        for (int n = 0; n < sort; n++) {
            wishes |= 1 << dice.nextInt(dice.nextInt(3) == 0 ? 28 : 8);
        }
        due("game", real.game(a, b, age, rank, week, wishes), plain.game(a, b, age, rank, week, wishes));
    }

    private void step(int roll) {
        if (roll < 2) {
            int age = wild(0, 2);
            int stand = wild(0, 1);
            due("pitch", real.pitch(age, stand), plain.pitch(age, stand));
        } else if (roll < 40) {
            addGame();
        } else if (roll < 55) {
            int week = wild(plain.days / 7, Math.min(50, plain.days / 7 + weeks - 1));
            due("lay(" + week + ")", real.lay(week), plain.lay(week));
        } else if (roll < 62) {
            if (dice.nextInt(20) == 0) {
                long bytes = dice.nextLong();
                due("feed", real.feed(bytes, ~bytes, 0), plain.feed(bytes, ~bytes, 0));
            }
            feed(text());
            due("text", real.text(), plain.text());
        } else if (roll < 66) {
            int pitch = wild(0, 5);
            due("turn", real.turn(pitch), plain.turn(pitch));
        } else {
            int warm = wild(0, 10);
            int wet = wild(0, 10);
            due("day", real.day(warm, wet), plain.day(warm, wet));
        }
    }

    private void compareAll() {
        for (int what = -1; what <= 10; what++) {
            due("count(" + what + ")", real.count(what), plain.count(what));
            for (int pitch = -1; pitch <= 6; pitch++) {
                due("field(" + pitch + ", " + what + ")", real.field(pitch, what), plain.field(pitch, what));
                due("would(" + pitch + ", " + what + ")", real.would(pitch, what), plain.would(pitch, what));
            }
        }
        for (int club = -1; club <= 16; club++) {
            for (int what = -1; what <= 3; what++) {
                due("club(" + club + ", " + what + ")", real.club(club, what), plain.club(club, what));
            }
        }
        for (int game = -1; game <= plain.games.size(); game++) {
            for (int what = -1; what <= 5; what++) {
                due("look(" + game + ", " + what + ")", Calls.look(real, game, what), plain.look(game, what));
            }
        }
        for (int pitch = -1; pitch <= 6; pitch++) {
            for (int row = -1; row <= 4; row++) {
                for (int column = -1; column <= 6; column++) {
                    due("grass", real.grass(pitch, row, column), plain.grass(pitch, row, column));
                }
            }
            for (int day = plain.days - 8; day < plain.days + 15; day++) {
                for (int hour = -1; hour <= 4; hour++) {
                    due("at(" + day + ", " + hour + ", " + pitch + ")", real.at(day, hour, pitch), plain.at(day, hour, pitch));
                }
            }
        }
    }

    private void run() {
        int pitches = dice.nextInt(7);
        for (int n = 0; n < pitches; n++) {
            step(0);
        }
        for (int n = 0; n < 150; n++) {
            step(dice.nextInt(n < 50 ? 62 : 100));
            if (n % 10 == 9) {
                compareAll();
            }
        }
    }

    public static void main(String[] args) {
        int runs = args.length > 0 ? Integer.parseInt(args[0]) : 300;
        for (int seed = 0; seed < runs; seed++) {
            new RandomRunsTest(seed).run();
        }
        CHECK.finish();
    }
}
