/** Promises 5 and 6: feed, text. */
public final class TextTest {
    private static final Check CHECK = new Check();
    private static final String LINE = "shut 0 when 1;";

    private static void feeding() {
        FieldKeeper x = new FieldKeeper();
        CHECK.due("nothing", x.feed(0, 0, 0), 0);
        CHECK.due("signs out of the range", x.feed(0x090B1F7F80FF0DA0L, -1, Long.MIN_VALUE), 0);
        CHECK.due("signs at its edges", x.feed(0x0A207E0000000000L, 0, 0), 3);
        CHECK.due("count(8)", x.count(8), 3);
        CHECK.due("none but one", x.feed(0, 0, 0x41), 4);
        for (int n = 0; n < 24; n++) {
            CHECK.due("feeding", x.feed(0x4141414141414141L, 0x4141414141414141L, 0x4141414141414141L), 4 + 24 * (n + 1));
        }
        CHECK.due("up to 600", x.feed(0x4141414141414141L, 0x4141414141414141L, 0x4141414141414141L), 600);
        CHECK.due("none beyond", x.feed(0x41, 0x41, 0x41), 600);
        CHECK.due("at the first A", x.text(), 1 + 16 * 2);
        CHECK.due("the tape is taken", x.count(8), 0);
        CHECK.due("and can be fed again", x.feed(0x41, 0x41, 0x41), 3);
    }

    private static void order() {
        FieldKeeper x = new FieldKeeper();
        x.feed(Check.pack("shut all", 0), Check.pack(" when 1 ", 0), Check.pack(";", 0));
        CHECK.due("the highest byte first, a then b then c", x.text(), 0);
        CHECK.due("a line", x.count(7), 1);
    }

    private static void fault(String text, int kind, int place) {
        FieldKeeper x = new FieldKeeper();
        CHECK.due("text \"" + text + "\"", Check.read(x, text), kind == 0 ? 0 : kind + 16 * place);
        CHECK.due("the tape behind \"" + text + "\"", x.count(8), 0);
    }

    private static void goodTexts() {
        fault("", 0, 0);
        fault(" \n ", 0, 0);
        fault("shut 0 when 1;", 0, 0);
        fault("shut0when1;", 0, 0);
        fault("shut 5when wet;", 0, 0);
        fault("shut 0005 when 9999;", 0, 0);
        fault("shut\nall\nwhen\n1\n;\n", 0, 0);
        fault("shut all when wet+warm-least<mean and played=day and hour and age;", 0, 0);
        fault("shut all when ((((1))));", 0, 0);
        fault("shut all when (1 and 2 < 3) = (4 + (5 = 6));", 0, 0);
        fault("shut 1 when (1 < 2) < (3 < 4);", 0, 0);
    }

    private static void wrongTokens() {
        fault("shut 6 when 1;", 4, 5);
        fault("shut 9999 x", 4, 5);
        fault("shut 10000 when 1;", 1, 5);
        fault("shut -1 when 1;", 1, 5);
        fault("shut wet when 1;", 1, 5);
        fault("shut", 1, 4);
        fault("shut ", 1, 5);
        fault("shut 0", 1, 6);
        fault("shut 0 when", 1, 11);
        fault("shut 0 when ", 1, 12);
        fault("shut 0 when ;", 1, 12);
        fault("shut 0 when 1", 1, 13);
        fault("shut 0 when 1 \n", 1, 15);
        fault("Shut 0 when 1;", 1, 0);
        fault("shutall when 1;", 1, 0);
        fault("shutshuts 0 when 1;", 1, 0);
        fault("when 0 shut 1;", 1, 0);
        fault(";", 1, 0);
        fault("shut 0 when 1;;", 1, 14);
        fault("shut 0 when 1; 2", 1, 15);
        fault("shut 0 when wet5;", 1, 15);
        fault("shut 0 when 12345;", 1, 12);
        fault("shut 0 when 1 + ;", 1, 16);
        fault("shut 0 when 1 + + 1;", 1, 16);
        fault("shut 0 when - 1;", 1, 12);
        fault("shut 0 when 1 < 2 = 3;", 1, 18);
        fault("shut 0 when 1 = 2 < 3;", 1, 18);
        fault("shut 0 when 1 == 2;", 1, 15);
        fault("shut 0 when 1 > 2;", 1, 14);
        fault("shut 0 when 1 * 2;", 1, 14);
        fault("shut 0 when and 1;", 1, 12);
        fault("shut 0 when 1 and and 1;", 1, 18);
        fault("shut 0 when all;", 1, 12);
        fault("shut 0 when wets;", 1, 12);
        fault("shut 0 when we;", 1, 12);
        fault("shut 0 when 1 shut;", 1, 14);
        fault("shut 0 when 1 2;", 1, 14);
        fault("shut 0 when ( 1;", 1, 15);
        fault("shut 0 when ( );", 1, 14);
        fault("shut 0 when 1 );", 1, 14);
        fault("shut 0 when 1 ( 2 );", 1, 14);
        fault("shut 0 when 1 @", 1, 14);
    }

    private static void tooMuch() {
        fault("shut 0 when (((((1)))));", 5, 17);
        fault("shut 0 when ((((((1))))));", 5, 17);
        fault("shut 0 when (((((wet)))));", 5, 17);
        fault("shut 0 when ((((()))));", 1, 17);
        fault("shut 0 when (((((12345)))));", 1, 17);
        fault("shut 0 when (((((and)))));", 1, 17);
        fault("shut 0 when (((((", 1, 17);
        fault("shut 0 when ((((1)))) + ((((2 - (3)))));", 5, 33);
        fault(LINE.repeat(16), 0, 0);
        fault(LINE.repeat(17), 5, 14 * 16);
        fault(LINE.repeat(16) + " shut", 5, 14 * 16 + 1);
        fault(LINE.repeat(16) + " wet", 1, 14 * 16 + 1);
        fault(LINE.repeat(16) + "#", 1, 14 * 16);
        fault(LINE.repeat(16) + " \n", 0, 0);
        fault("(".repeat(600), 1, 0);
        fault("shut 0 when 1" + "+1".repeat(293) + ";", 0, 0);
        fault("shut 0 when 1" + "+1".repeat(294), 1, 600);
        fault("shut 0 when 0" + "+(1)".repeat(147), 1, 600);
    }

    /** A text with a fault is none: what was read before stays. */
    private static void oneInPlaceOfAnother() {
        FieldKeeper x = new FieldKeeper();
        Check.read(x, LINE + LINE);
        CHECK.due("two lines", x.count(7), 2);
        Check.read(x, LINE + LINE + LINE);
        CHECK.due("three in place of them", x.count(7), 3);
        CHECK.due("a fault", Check.read(x, LINE + "shut"), 1 + 16 * 18);
        CHECK.due("the three stay", x.count(7), 3);
        CHECK.due("an empty one", x.text(), 0);
        CHECK.due("no line", x.count(7), 0);
    }

    private static void shuts(String sum, boolean shut) {
        FieldKeeper x = new FieldKeeper();
        x.pitch(2, 0);
        CHECK.due("text " + sum, Check.read(x, "shut 0 when " + sum + ";"), 0);
        x.day(3, 4);
        CHECK.due("hours shut when " + sum, x.field(0, 4), shut ? 4 : 0);
    }

    private static void worths() {
        shuts("0", false);
        shuts("1", true);
        shuts("9999", true);
        shuts("1 - 2", true);
        shuts("1 - 2 + 1", false);
        shuts("9 - 3 - 3 = 3", true);
        shuts("9 - (3 - 3) = 9", true);
        shuts("2 < 2", false);
        shuts("1 < 2", true);
        shuts("2 - 3 < 0", true);
        shuts("2 = 2", true);
        shuts("2 = 3", false);
        shuts("2 and 3", true);
        shuts("2 and 0", false);
        shuts("0 and 2", false);
        shuts("(2 and 3) = 1", true);
        shuts("(2 < 3) + (2 = 2) = 2", true);
        shuts("1 and 1 and 0", false);
        shuts("wet = 4 and warm = 3", true);
        shuts("wet = 3", false);
        shuts("least = 800 and mean = 800", true);
        shuts("played = 0 and day = 0", true);
        shuts("age = 0 - 1", true);
        shuts("1" + "+1".repeat(200) + "-201", false);
        shuts("1" + "+1".repeat(200) + "=201", true);
        shuts("2 and 2 = 1 + (2 and 2 = 1 + (2 and 2 = 1 + (2 and 2 = 1 + (2 and 2 = 1 + 1))))", true);
        shuts("2 and 2 = 1 + (2 and 2 = 1 + (2 and 2 = 1 + (2 and 2 = 1 + (2 and 2 = 1 + 2))))", false);
    }

    public static void main(String[] args) {
        feeding();
        order();
        goodTexts();
        wrongTokens();
        tooMuch();
        oneInPlaceOfAnother();
        worths();
        CHECK.finish();
    }
}
