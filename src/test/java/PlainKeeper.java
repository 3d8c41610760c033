import java.util.ArrayList;
import java.util.Collections;
import java.util.Comparator;
import java.util.List;

/**
 * The document once more, in its slowest form: every slot is tried by looking at every game,
 * a text's fault is found by what may stand next, and its lines are worked out from their tokens.
 */
final class PlainKeeper {
    static final class G {
        int number, a, b, age, rank, week, wishes, state, day = -1, hour = -1, pitch = -1, moved;

        boolean lies() {
            return state == 1 || state == 2;
        }

        boolean has(int club) {
            return a == club || b == club;
        }

        void go(int[] slot) {
            state = 1;
            day = slot[0];
            hour = slot[1];
            pitch = slot[2];
        }
    }

    static final class P {
        int age, played, shut;
        int[] stand = new int[2], worn = new int[2];
        int[][][] grass = new int[2][4][6];
        List<Integer> playedDays = new ArrayList<>();
    }

    static final class Token {
        String sign;
        int place;
        boolean end, none;
    }

    final List<P> pitches = new ArrayList<>();
    final List<G> games = new ArrayList<>();
    final int[][] clubs = new int[16][3];
    final StringBuilder tape = new StringBuilder();
    List<List<String>> lines = new ArrayList<>();
    int days;

    int pitch(int age, int stand) {
        if (age < 0 || age > 2 || stand != 0 && stand != 1 || pitches.size() == 6 || days > 0) {
            return -1;
        }
        P p = new P();
        p.age = age;
        p.stand = new int[] {stand, 1 - stand};
        for (int way = 0; way < 2; way++) {
            for (int[] row : p.grass[way]) {
                java.util.Arrays.fill(row, 800);
            }
        }
        pitches.add(p);
        return pitches.size() - 1;
    }

    private boolean weekIsOver(int week) {
        return days >= 7L * week + 7;
    }

    int game(int a, int b, int age, int rank, int week, int wishes) {
        boolean clubsFit = a >= 0 && a <= 15 && b >= 0 && b <= 15 && a != b;
        boolean rest = age >= 0 && age <= 2 && rank >= 0 && rank <= 9 && week >= 0 && week <= 50 && !weekIsOver(week);
        if (!clubsFit || !rest || wishes == 0 || wishes >>> 28 != 0 || games.size() == 60) {
            return -1;
        }
        G g = new G();
        g.number = games.size();
        g.a = a;
        g.b = b;
        g.age = age;
        g.rank = rank;
        g.week = week;
        g.wishes = wishes;
        games.add(g);
        return g.number;
    }

    private boolean suits(G g, int day, int hour, int pitch) {
        if (pitches.get(pitch).age < g.age) {
            return false;
        }
        for (G o : games) {
            if (o.lies() && o.day == day) {
                if (o.hour == hour && o.pitch == pitch) {
                    return false;
                }
                if (o != g && (o.has(g.a) || o.has(g.b))) {
                    return false;
                }
            }
        }
        return true;
    }

    private int[] first(G g, int from, boolean wished, int[] but) {
        for (int day = Math.max(from, 7 * g.week); day < 7 * g.week + 7; day++) {
            for (int hour = 0; hour < 4; hour++) {
                for (int pitch = 0; pitch < pitches.size(); pitch++) {
                    boolean wish = !wished || (g.wishes & 1 << 4 * (day % 7) + hour) != 0;
                    boolean had = but != null && but[0] == day && but[1] == hour && but[2] == pitch;
                    if (wish && !had && suits(g, day, hour, pitch)) {
                        return new int[] {day, hour, pitch};
                    }
                }
            }
        }
        return null;
    }

    int lay(int week) {
        if (week < 0 || week > 50 || weekIsOver(week)) {
            return -1;
        }
        List<G> fresh = new ArrayList<>();
        for (G g : games) {
            if (g.week == week && g.state == 0) {
                fresh.add(g);
            }
        }
        Collections.sort(fresh, Comparator.comparingInt((G g) -> -g.rank).thenComparingInt(g -> g.number));
        int left = 0;
        for (G g : fresh) {
            int[] slot = first(g, days, true, null);
            if (slot != null) {
                g.go(slot);
            } else if (!swap(g)) {
                left++;
            }
        }
        return left;
    }

    private boolean swap(G g) {
        for (G o : games) {
            if (o.week != g.week || o.state != 1) {
                continue;
            }
            int[] had = {o.day, o.hour, o.pitch};
            o.state = 0;
            int[] mine = first(g, days, true, null);
            if (mine != null) {
                g.go(mine);
                int[] its = first(o, days, true, had);
                if (its != null) {
                    o.go(its);
                    return true;
                }
                g.state = 0;
            }
            o.go(had);
        }
        return false;
    }

    int feed(long a, long b, long c) {
        for (long word : new long[] {a, b, c}) {
            for (int i = 7; i >= 0; i--) {
                int sign = (int) (word >> 8 * i) & 255;
                if ((sign == 10 || sign >= 32 && sign <= 126) && tape.length() < 600) {
                    tape.append((char) sign);
                }
            }
        }
        return tape.length();
    }

    private static List<Token> cut(String text) {
        List<Token> tokens = new ArrayList<>();
        java.util.regex.Matcher m = java.util.regex.Pattern.compile("[a-z]+|[0-9]+|[^ \n]").matcher(text);
        while (m.find()) {
            Token t = new Token();
            t.sign = m.group();
            t.place = m.start();
            t.none = !t.sign.matches("[a-z]{1,8}|[0-9]{1,4}|[()<=+;-]");
            tokens.add(t);
        }
        Token end = new Token();
        end.sign = "";
        end.place = text.length();
        end.end = true;
        tokens.add(end);
        return tokens;
    }

    int text() {
        List<Token> tokens = cut(tape.toString());
        tape.setLength(0);
        List<List<String>> read = new ArrayList<>();
        List<String> line = new ArrayList<>();
        String state = "line";
        List<Boolean> compared = new ArrayList<>();
        for (Token t : tokens) {
            int wrong = 0;
            boolean number = t.sign.matches("[0-9]{1,4}");
            switch (state) {
                case "line":
                    if (t.end) {
                        lines = read;
                        return 0;
                    }
                    wrong = !t.sign.equals("shut") ? 1 : read.size() == 16 ? 5 : 0;
                    state = "which";
                    break;
                case "which":
                    wrong = t.sign.equals("all") ? 0 : !number ? 1 : Integer.parseInt(t.sign) > 5 ? 4 : 0;
                    line.add(t.sign);
                    state = "when";
                    break;
                case "when":
                    wrong = t.sign.equals("when") ? 0 : 1;
                    compared.add(false);
                    state = "part";
                    break;
                case "part":
                    boolean part = number || t.sign.matches("\\(|wet|warm|least|mean|played|day|hour|age");
                    wrong = !part ? 1 : compared.size() > 5 ? 5 : 0;
                    if (t.sign.equals("(")) {
                        compared.add(false);
                    } else {
                        state = "behind";
                    }
                    line.add(t.sign);
                    break;
                default:
                    int top = compared.size() - 1;
                    line.add(t.sign);
                    if (t.sign.equals("+") || t.sign.equals("-")) {
                        state = "part";
                    } else if ((t.sign.equals("<") || t.sign.equals("=")) && !compared.get(top)) {
                        compared.set(top, true);
                        state = "part";
                    } else if (t.sign.equals("and")) {
                        compared.set(top, false);
                        state = "part";
                    } else if (t.sign.equals(")") && top > 0) {
                        compared.remove(top);
                    } else if (t.sign.equals(";") && top == 0) {
                        compared.clear();
                        read.add(line);
                        line = new ArrayList<>();
                        state = "line";
                    } else {
                        wrong = 1;
                    }
            }
            if (wrong != 0) {
                return wrong + 16 * t.place;
            }
        }
        throw new AssertionError("the end can stand behind a line alone");
    }

    private final class Worth {
        final List<String> signs;
        int at = 1;
        int warm, wet, hour, age;
        P pitch;

        Worth(List<String> signs) {
            this.signs = signs;
        }

        boolean next(String sign) {
            if (signs.get(at).equals(sign)) {
                at++;
                return true;
            }
            return false;
        }

        int all() {
            int left = test();
            while (next("and")) {
                int right = test();
                left = left != 0 && right != 0 ? 1 : 0;
            }
            return left;
        }

        int test() {
            int left = sum();
            if (next("<")) {
                return left < sum() ? 1 : 0;
            }
            return next("=") ? left == sum() ? 1 : 0 : left;
        }

        int sum() {
            int left = part();
            while (true) {
                if (next("+")) {
                    left += part();
                } else if (next("-")) {
                    left -= part();
                } else {
                    return left;
                }
            }
        }

        int part() {
            String sign = signs.get(at++);
            switch (sign) {
                case "(":
                    int inner = all();
                    at++;
                    return inner;
                case "wet":
                    return wet;
                case "warm":
                    return warm;
                case "least":
                    return least(pitch, 0);
                case "mean":
                    return mean(pitch, 0);
                case "played":
                    int played = 0;
                    for (int day : pitch.playedDays) {
                        played += day / 7 == days / 7 ? 1 : 0;
                    }
                    return played;
                case "day":
                    return days % 7;
                case "hour":
                    return hour;
                case "age":
                    return age;
                default:
                    return Integer.parseInt(sign);
            }
        }
    }

    private boolean shut(int pitch, int hour, int warm, int wet, G lying) {
        for (List<String> line : lines) {
            if (line.get(0).equals("all") || Integer.parseInt(line.get(0)) == pitch) {
                Worth w = new Worth(line);
                w.warm = warm;
                w.wet = wet;
                w.hour = hour;
                w.age = lying == null ? -1 : lying.age;
                w.pitch = pitches.get(pitch);
                if (w.all() != 0) {
                    return true;
                }
            }
        }
        return false;
    }

    int day(int warm, int wet) {
        if (warm < 0 || warm > 10 || wet < 0 || wet > 10 || days == 357) {
            return -1;
        }
        for (int hour = 0; hour < 4; hour++) {
            for (int n = 0; n < pitches.size(); n++) {
                int number = at(days, hour, n);
                G g = number < 0 ? null : games.get(number);
                if (shut(n, hour, warm, wet, g)) {
                    pitches.get(n).shut++;
                    if (g != null) {
                        away(g);
                    }
                } else if (g != null) {
                    play(g, pitches.get(n), wet);
                }
            }
        }
        for (P p : pitches) {
            for (int i = 0; i < 48; i++) {
                int[] row = p.grass[i / 24][i % 24 / 6];
                int left = wet > 8 ? Math.max(row[i % 6] - 10, 0) : row[i % 6];
                row[i % 6] = left + (1000 - left) * warm * (10 - 2 * Math.abs(wet - 5)) / 2000;
            }
        }
        return days++;
    }

    private void away(G g) {
        clubs[g.a][1]++;
        clubs[g.b][1]++;
        int[] slot = first(g, g.day + 1, false, null);
        if (slot != null) {
            g.go(slot);
            g.moved++;
        } else {
            g.state = 3;
            clubs[g.a][2]++;
            clubs[g.b][2]++;
        }
    }

    private void play(G g, P p, int wet) {
        g.state = 2;
        clubs[g.a][0]++;
        clubs[g.b][0]++;
        p.played++;
        p.playedDays.add(days);
        for (int way = 0; way < 2; way++) {
            for (int row = 0; row < 4; row++) {
                for (int column = 0; column < 6; column++) {
                    int wear = (4 + 2 * g.age) * factor(p.stand[way], row, column) * (10 + wet) / 10;
                    int before = p.grass[way][row][column];
                    p.grass[way][row][column] = Math.max(0, before - wear);
                    p.worn[way] += before - p.grass[way][row][column];
                }
            }
        }
    }

    private static int factor(int stand, int row, int column) {
        boolean innerRow = row == 1 || row == 2;
        boolean innerColumn = column == 2 || column == 3;
        if (innerRow && innerColumn) {
            return 2;
        }
        if (stand == 0) {
            return innerRow && (column == 0 || column == 5) ? 3 : 1;
        }
        return innerColumn ? 3 : 1;
    }

    private static int least(P p, int way) {
        int least = 1000;
        for (int[] row : p.grass[way]) {
            for (int g : row) {
                least = Math.min(least, g);
            }
        }
        return least;
    }

    private static int mean(P p, int way) {
        int sum = 0;
        for (int[] row : p.grass[way]) {
            for (int g : row) {
                sum += g;
            }
        }
        return sum / 24;
    }

    int turn(int pitch) {
        if (pitch < 0 || pitch >= pitches.size()) {
            return -1;
        }
        P p = pitches.get(pitch);
        p.stand = new int[] {p.stand[1], p.stand[0]};
        return p.stand[0];
    }

    int grass(int pitch, int row, int column) {
        boolean there = pitch >= 0 && pitch < pitches.size() && row >= 0 && row < 4 && column >= 0 && column < 6;
        return there ? pitches.get(pitch).grass[0][row][column] : -1;
    }

    int look(int game, int what) {
        if (game < 0 || game >= games.size() || what < 0 || what > 4) {
            return Calls.THROWN;
        }
        G g = games.get(game);
        if (what >= 1 && what <= 3 && !g.lies()) {
            return -1;
        }
        return new int[] {g.state, g.day, g.hour, g.pitch, g.moved}[what];
    }

    int at(int day, int hour, int pitch) {
        for (G g : games) {
            if (g.lies() && g.day == day && g.hour == hour && g.pitch == pitch) {
                return g.number;
            }
        }
        return -1;
    }

    int club(int club, int what) {
        return club < 0 || club > 15 || what < 0 || what > 2 ? -1 : clubs[club][what];
    }

    int field(int pitch, int what) {
        if (pitch < 0 || pitch >= pitches.size() || what < 0 || what > 5) {
            return -1;
        }
        P p = pitches.get(pitch);
        return new int[] {p.stand[0], least(p, 0), mean(p, 0), p.played, p.shut, p.worn[0]}[what];
    }

    int would(int pitch, int what) {
        if (pitch < 0 || pitch >= pitches.size() || what < 0 || what > 2) {
            return -1;
        }
        P p = pitches.get(pitch);
        return new int[] {least(p, 1), mean(p, 1), p.worn[1]}[what];
    }

    int count(int what) {
        if (what < 0 || what > 9) {
            return -1;
        }
        int[] states = new int[4];
        for (G g : games) {
            states[g.state]++;
        }
        int shut = 0;
        for (P p : pitches) {
            shut += p.shut;
        }
        return new int[] {pitches.size(), games.size(), days, states[0], states[1], states[2], states[3],
            lines.size(), tape.length(), shut}[what];
    }
}
