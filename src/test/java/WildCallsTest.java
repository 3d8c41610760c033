/** All promises: no argument, however wild, makes a call throw, but look, and that only what the document names. */
public final class WildCallsTest {
    private static final Check CHECK = new Check();
    private static final int[] WILD = {Calls.MIN, Calls.MIN + 1, -7, -1, 0, 1, 3, 5, 6, 7, 16, 50, 60, 357, Calls.MAX - 1, Calls.MAX};
    private static final int[] FEW = {Calls.MIN, -1, 0, 1, Calls.MAX};

    private static FieldKeeper someDaysOver(int days) {
        FieldKeeper x = Calls.keeper(days % 7);
        for (int n = 0; n < 30; n++) {
            x.game(n % 16, (n + 5) % 16, n % 3, n % 10, days / 7, 1 << n % 28 | 1 << n % 5);
        }
        x.lay(days / 7);
        Calls.read(x, "shut all when hour = 1 and age < 1; shut 2 when played;");
        Calls.plainDays(x, days);
        Calls.feed(x, "shut 0 when ((((");
        return x;
    }

    private static int callWithOneNumber(FieldKeeper x, int a) {
        return x.lay(a) | x.turn(a) | x.count(a) | x.feed(a, ~a, (long) a << 32) | x.text();
    }

    private static int callWithTwo(FieldKeeper x, int a, int b) {
        return x.pitch(a, b) | Calls.look(x, a, b) | x.club(a, b) | x.field(a, b) | x.would(a, b) | x.day(a, b);
    }

    private static int callWithThree(FieldKeeper x, int a, int b, int c) {
        return x.grass(a, b, c) | x.at(a, b, c) | x.feed(a, b, c);
    }

    private static int callGame(FieldKeeper x, int code) {
        int[] g = new int[6];
        for (int i = 0, rest = code; i < 6; i++, rest /= FEW.length) {
            g[i] = FEW[rest % FEW.length];
        }
        return x.game(g[0], g[1], g[2], g[3], g[4], g[5]);
    }

    private static void callAll(int days) {
        int made = 0;
        int answers = 0;
        for (int a : WILD) {
            for (int b : WILD) {
                FieldKeeper x = someDaysOver(days);
                answers |= callWithOneNumber(x, a) | callWithTwo(x, a, b);
                for (int c : WILD) {
                    answers |= callWithThree(x, a, b, c);
                    made++;
                }
            }
        }
        FieldKeeper x = null;
        for (int code = 0; code < 15625; code++) {
            x = code % 60 == 0 ? someDaysOver(days) : x;
            answers |= callGame(x, code);
            made++;
        }
        CHECK.due("calls made with " + days + " days over", made, 16 * 16 * 16 + 15625);
        CHECK.due("some of them refused", answers, answers | -1);
    }

    public static void main(String[] args) {
        for (int days : new int[] {0, 1, 6, 7, 13, 20, 350, 356, 357}) {
            callAll(days);
        }
        CHECK.finish();
    }
}
