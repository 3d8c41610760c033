/** Promise 6: text. What its lines shut is tested with promise 7. */
public final class Promise06TextTest {
    private static final String LINE = "shut 0 when 1;";
    private static final String[] PARTS = {"wet", "warm", "least", "mean", "played", "day", "hour", "age", "0", "5", "9999", "("};
    private static final String[] BEHIND_A_SUM = {"+", "-", "<", "=", "and", ";"};
    private static final String[] BEHIND_A_TEST = {"+", "-", "and", ";"};
    private static final String[] TOKENS = {"shut", "all", "when", "and", "wet", "warm", "least", "mean", "played", "day",
        "hour", "age", "0", "5", "9999", "(", ")", "<", "=", "+", "-", ";", "#", "x", "abcdefghi", "12345"};

    private static void good(Check check, String text, int lines) {
        FieldKeeper x = new FieldKeeper();
        check.due("text \"" + text + "\"", Calls.read(x, text), 0);
        check.due("lines of \"" + text + "\"", x.count(7), lines);
        check.due("the tape behind \"" + text + "\"", x.count(8), 0);
    }

    private static void fault(Check check, String text, int kind, int place) {
        FieldKeeper x = new FieldKeeper();
        check.due("text \"" + text + "\"", Calls.read(x, text), kind + 16 * place);
        check.due("lines of \"" + text + "\"", x.count(7), 0);
        check.due("the tape behind \"" + text + "\"", x.count(8), 0);
    }

    static void promise6AnEmptyText(Check check) {
        good(check, "", 0);
        good(check, " ", 0);
        good(check, " \n \n", 0);
        good(check, " ".repeat(600), 0);
        fault(check, " ".repeat(599) + "#", 1, 599);
    }

    static void promise6AFullTape(Check check) {
        good(check, "shut 0 when 1" + "+1".repeat(293) + ";", 1);
        fault(check, "shut 0 when 11" + "+1".repeat(293) + ";", 1, 600);
        fault(check, "shut 0 when 1" + " ".repeat(587) + ";", 1, 600);
        good(check, "shut 0 when 1" + " ".repeat(586) + ";", 1);
        fault(check, "(".repeat(600), 1, 0);
        good(check, "shut all when 1" + "and 1".repeat(116) + ";", 1);
        good(check, "shut 0 when 0" + "+(1)".repeat(146) + ";", 1);
    }

    static void promise6BlanksAre10And32(Check check) {
        good(check, "shut\nall\nwhen\n1\n;\n", 1);
        good(check, "  shut  all  when  1  ;  ", 1);
        good(check, "shut0when1;", 1);
        good(check, "shut 5when wet<3and 1;", 1);
        good(check, "shut 0 when(1)and(2);shut 1 when 2;", 2);
        fault(check, "shutall when 1;", 1, 0);
        fault(check, "shut 0 when1 and2 andwet;", 1, 18);
        fault(check, "sh ut 0 when 1;", 1, 0);
        fault(check, "shut 0 when 1 2;", 1, 14);
        good(check, "shut 0 when 12;", 1);
    }

    /** Each sign of the tape between a number and a semicolon. */
    static void promise6EachSign(Check check) {
        for (char sign = 32; sign <= 126; sign++) {
            String text = "shut 0 when 1" + sign + ";";
            if (sign == ' ' || sign >= '0' && sign <= '9') {
                good(check, text, 1);
            } else if ("<=+-;".indexOf(sign) >= 0) {
                fault(check, text, 1, 14);
            } else {
                fault(check, text, 1, 13);
            }
        }
        good(check, "shut 0 when 1\n;", 1);
    }

    /** Each sign of the tape where a word begins, and within it. */
    static void promise6WordsAreOfSmallLetters(Check check) {
        for (char sign = 33; sign <= 126; sign++) {
            if (sign != 's') {
                fault(check, sign + "hut 0 when 1;", 1, 0);
            }
            if (sign != 'u') {
                fault(check, "sh" + sign + "t 0 when 1;", 1, 0);
            }
            boolean digit = sign >= '0' && sign <= '9';
            if (!digit) {
                boolean letter = sign >= 'a' && sign <= 'z';
                fault(check, "shut" + sign + " when 1;", 1, letter ? 0 : 4);
            }
        }
    }

    static void promise6WordsHave8LettersAtMost(Check check) {
        fault(check, "shut 0 when playeday;", 1, 12);
        fault(check, "shut 0 when playedday;", 1, 12);
        fault(check, "shutshut 0 when 1;", 1, 0);
        fault(check, "shutshuts 0 when 1;", 1, 0);
        fault(check, "shut 0 when wet andwetwetwet 1;", 1, 16);
        fault(check, "shut 0 when " + "a".repeat(580) + ";", 1, 12);
    }

    static void promise6EachWordIsWhole(Check check) {
        String[] names = {"wet", "warm", "least", "mean", "played", "day", "hour", "age"};
        for (String name : names) {
            good(check, "shut 0 when " + name + ";", 1);
            fault(check, "shut 0 when " + name + "s;", 1, 12);
            fault(check, "shut 0 when " + name.substring(1) + ";", 1, 12);
            fault(check, "shut 0 when " + name.substring(0, name.length() - 1) + ";", 1, 12);
            for (int i = 0; i < name.length(); i++) {
                fault(check, "shut 0 when " + name.substring(0, i) + "x" + name.substring(i + 1) + ";", 1, 12);
            }
            fault(check, "shut " + name + " when 1;", 1, 5);
        }
        for (String word : new String[] {"shut", "all", "when", "and", "or", "not", "x"}) {
            fault(check, "shut 0 when " + word + ";", 1, 12);
        }
        fault(check, "shu 0 when 1;", 1, 0);
        fault(check, "shuts 0 when 1;", 1, 0);
        fault(check, "shux 0 when 1;", 1, 0);
        fault(check, "shut al when 1;", 1, 5);
        fault(check, "shut alx when 1;", 1, 5);
        fault(check, "shut alls when 1;", 1, 5);
        fault(check, "shut 0 whe 1;", 1, 7);
        fault(check, "shut 0 whex 1;", 1, 7);
        fault(check, "shut 0 whens 1;", 1, 7);
        fault(check, "shut 0 when 1 an 1;", 1, 14);
        fault(check, "shut 0 when 1 anx 1;", 1, 14);
        fault(check, "shut 0 when 1 ands 1;", 1, 14);
    }

    static void promise6NumbersHave1To4Digits(Check check) {
        good(check, "shut 0 when 9;", 1);
        good(check, "shut 0 when 9999;", 1);
        good(check, "shut 0 when 0000;", 1);
        fault(check, "shut 0 when 10000;", 1, 12);
        fault(check, "shut 0 when 00000;", 1, 12);
        fault(check, "shut 0 when 1+12345;", 1, 14);
        fault(check, "shut 0 when " + "1".repeat(588), 1, 12);
        for (char digit = '0'; digit <= '9'; digit++) {
            good(check, "shut 0 when " + digit + ";", 1);
        }
        fault(check, "shut 0 when /;", 1, 12);
        fault(check, "shut 0 when :;", 1, 12);
    }

    static void promise6ALetterMayStandBehindANumber(Check check) {
        good(check, "shut 0when 1and 1;", 1);
        fault(check, "shut 0 when 1wet;", 1, 13);
        fault(check, "shut 0 when wet1;", 1, 15);
        fault(check, "shut 0 when 12345and 1;", 1, 12);
    }

    static void promise6APitchIs0To5(Check check) {
        for (int pitch = 0; pitch <= 5; pitch++) {
            good(check, "shut " + pitch + " when 1;", 1);
            good(check, "shut 000" + pitch + " when 1;", 1);
            fault(check, "shut 0000" + pitch + " when 1;", 1, 5);
        }
        for (int pitch : new int[] {6, 7, 9, 10, 15, 50, 100, 1000, 9999}) {
            fault(check, "shut " + pitch + " when 1;", 4, 5);
            fault(check, "shut " + pitch, 4, 5);
        }
        fault(check, "shut 0006 when 1;", 4, 5);
        fault(check, "shut 10000 when 1;", 1, 5);
        fault(check, "shut -1 when 1;", 1, 5);
        fault(check, LINE + "  shut 6 when 1;", 4, 14 + 7);
    }

    static void promise6APitchNeedNotBeThere(Check check) {
        good(check, "shut 5 when 1;", 1);
    }

    static void promise6SixteenLinesAreTheMost(Check check) {
        for (int lines = 1; lines <= 16; lines++) {
            good(check, LINE.repeat(lines), lines);
        }
        good(check, LINE.repeat(16) + " \n ", 16);
        fault(check, LINE.repeat(17), 5, 14 * 16);
        fault(check, LINE.repeat(18), 5, 14 * 16);
        fault(check, LINE.repeat(16) + " \nshut", 5, 14 * 16 + 2);
        fault(check, LINE.repeat(15) + "shut", 1, 14 * 15 + 4);
    }

    static void promise6ThatA17thLineIsTooManyIsNotTheLeast(Check check) {
        fault(check, LINE.repeat(16) + "wet", 1, 14 * 16);
        fault(check, LINE.repeat(16) + " #", 1, 14 * 16 + 1);
        fault(check, LINE.repeat(16) + ";", 1, 14 * 16);
        fault(check, LINE.repeat(16) + "shutshuts", 1, 14 * 16);
    }

    static void promise6FivePartsWithinOneAnother(Check check) {
        good(check, "shut 0 when 1;", 1);
        good(check, "shut 0 when ((((1))));", 1);
        good(check, "shut 0 when ((((wet and 1 < 2 + 3))));", 1);
        fault(check, "shut 0 when (((((1)))));", 5, 17);
        fault(check, "shut 0 when (((((wet)))));", 5, 17);
        fault(check, "shut 0 when ((((((1))))));", 5, 17);
        good(check, "shut 0 when ((((1)))) + ((((2)))) < ((((3)))) and ((((4))));", 1);
        fault(check, "shut 0 when ((((1)))) + (((((2)))));", 5, 29);
        fault(check, "shut 0 when ((((1)))) < (((((2)))));", 5, 29);
        fault(check, "shut 0 when ((((1)))) and (((((2)))));", 5, 31);
        fault(check, "shut 0 when ((((1 + (2)))));", 5, 21);
        good(check, "shut 0 when ((((1)+(2))));", 1);
        good(check, "shut 0 when ((((1))));shut 0 when ((((1))));", 2);
    }

    static void promise6ThatAPartIsTooDeepIsNotTheLeast(Check check) {
        fault(check, "shut 0 when ((((()))));", 1, 17);
        fault(check, "shut 0 when (((((12345)))));", 1, 17);
        fault(check, "shut 0 when (((((and)))));", 1, 17);
        fault(check, "shut 0 when (((((#", 1, 17);
        fault(check, "shut 0 when (((((", 1, 17);
        fault(check, "shut 0 when (((((;", 1, 17);
    }

    static void promise6TheEndIsATokenAtTheTextsLength(Check check) {
        String line = "shut 0 when ( 1 + 2 ) < 3 and 4 ;";
        for (int end : new int[] {4, 5, 6, 7, 11, 12, 13, 14, 15, 16, 17, 18, 19, 20, 21, 22, 23, 24, 25, 26, 29, 30, 31, 32}) {
            fault(check, line.substring(0, end), 1, end);
        }
        good(check, line, 1);
        fault(check, "shut 0 when 1 \n", 1, 15);
        fault(check, LINE + "shut", 1, 18);
    }

    static void promise6TheFirstWrongTokenCounts(Check check) {
        fault(check, "shut 6 when #;", 4, 5);
        fault(check, "shut 0 when #; shut 6 when 1;", 1, 12);
        fault(check, "# shut 6", 1, 0);
        fault(check, LINE.repeat(15) + "shut 6 when 1;" + LINE, 4, 14 * 15 + 5);
    }

    /** Each token behind a good beginning: those that may stand there are followed by the end, the others are wrong. */
    private static void mayStand(Check check, String before, String... allowed) {
        for (String token : TOKENS) {
            boolean fits = java.util.Arrays.asList(allowed).contains(token);
            if (fits && token.equals(";")) {
                good(check, before + token, 1);
            } else {
                fault(check, before + token, 1, before.length() + (fits ? token.length() : 0));
            }
        }
    }

    static void promise6EachTokenAtALinesBeginning(Check check) {
        mayStand(check, "", "shut");
        mayStand(check, LINE + " ", "shut");
        mayStand(check, "shut all ", "when");
        mayStand(check, "shut 0 ", "when");
        FieldKeeper x = new FieldKeeper();
        check.due("9999 is no pitch", Calls.read(x, "shut 9999"), 4 + 16 * 5);
        for (String token : TOKENS) {
            if (!token.equals("9999")) {
                boolean fits = token.equals("all") || token.equals("0") || token.equals("5");
                fault(check, "shut " + token, 1, 5 + (fits ? token.length() : 0));
            }
        }
    }

    static void promise6EachTokenWhereAPartMayStand(Check check) {
        for (String before : new String[] {"", "1 + ", "1 - ", "1 < ", "1 = ", "1 and ", "( ", "1 < 2 and ", "1 = 2 + "}) {
            mayStand(check, "shut 0 when " + before, PARTS);
        }
    }

    static void promise6EachTokenBehindAPart(Check check) {
        for (String before : new String[] {"1 ", "wet ", "( 1 ) ", "1 + 2 ", "1 and 2 ", "1 < 2 and 3 ", "( 1 < 2 ) "}) {
            mayStand(check, "shut 0 when " + before, BEHIND_A_SUM);
        }
        for (String before : new String[] {"1 < 2 ", "1 = wet ", "1 < ( 2 ) ", "1 = 2 + 3 ", "1 and 2 = 3 "}) {
            mayStand(check, "shut 0 when " + before, BEHIND_A_TEST);
        }
        mayStand(check, "shut 0 when ( 1 ", "+", "-", "<", "=", "and", ")");
        mayStand(check, "shut 0 when ( 1 < 2 ", "+", "-", "and", ")");
        mayStand(check, "shut 0 when 1 < ( 2 ", "+", "-", "<", "=", "and", ")");
    }

    static void promise6WhatCanNotStandThere(Check check) {
        fault(check, "when 0 shut 1;", 1, 0);
        fault(check, "0 when 1;", 1, 0);
        fault(check, ";", 1, 0);
        fault(check, LINE + ";", 1, 14);
        fault(check, LINE + " 2", 1, 15);
        fault(check, "shut when 1;", 1, 5);
        fault(check, "shut shut 1;", 1, 5);
        fault(check, "shut ( 0 ) when 1;", 1, 5);
        fault(check, "shut 0 1;", 1, 7);
        fault(check, "shut all 0 when 1;", 1, 9);
        fault(check, "shut 0 all when 1;", 1, 7);
        fault(check, "shut 0;", 1, 6);
        fault(check, "shut 0 when ;", 1, 12);
        fault(check, "shut 0 when when 1;", 1, 12);
        fault(check, "shut 0 when 1 shut;", 1, 14);
        fault(check, "shut 0 when 1 shut 0 when 1;", 1, 14);
    }

    static void promise6ASum(Check check) {
        good(check, "shut 0 when 1 + 2 - 3 + 4;", 1);
        fault(check, "shut 0 when + 1;", 1, 12);
        fault(check, "shut 0 when - 1;", 1, 12);
        fault(check, "shut 0 when 1 + ;", 1, 16);
        fault(check, "shut 0 when 1 - ;", 1, 16);
        fault(check, "shut 0 when 1 + + 1;", 1, 16);
        fault(check, "shut 0 when 1 - - 1;", 1, 16);
        fault(check, "shut 0 when 1 * 2;", 1, 14);
        fault(check, "shut 0 when 1 + < 1;", 1, 16);
    }

    static void promise6ATestHasOneSign(Check check) {
        good(check, "shut 0 when 1 < 2;", 1);
        good(check, "shut 0 when 1 = 2;", 1);
        good(check, "shut 0 when 1 < 2 and 3 = 4 and 5 < 6;", 1);
        good(check, "shut 0 when (1 < 2) < (3 = 4);", 1);
        fault(check, "shut 0 when 1 < 2 < 3;", 1, 18);
        fault(check, "shut 0 when 1 < 2 = 3;", 1, 18);
        fault(check, "shut 0 when 1 = 2 < 3;", 1, 18);
        fault(check, "shut 0 when 1 = 2 = 3;", 1, 18);
        fault(check, "shut 0 when (1 < 2 = 3);", 1, 19);
        fault(check, "shut 0 when 1 == 2;", 1, 15);
        fault(check, "shut 0 when 1 <= 2;", 1, 15);
        fault(check, "shut 0 when 1 > 2;", 1, 14);
        fault(check, "shut 0 when < 2;", 1, 12);
        fault(check, "shut 0 when 1 <;", 1, 15);
        fault(check, "shut 0 when 1 =;", 1, 15);
    }

    static void promise6AndStandsBetweenTests(Check check) {
        good(check, "shut 0 when 1 and 2 and 3;", 1);
        fault(check, "shut 0 when and 1;", 1, 12);
        fault(check, "shut 0 when 1 and;", 1, 17);
        fault(check, "shut 0 when 1 and and 1;", 1, 18);
        fault(check, "shut 0 when 1 < and 1;", 1, 16);
        good(check, "shut 0 when (1 and 2) + 3;", 1);
        fault(check, "shut 0 when (1 and) + 3;", 1, 18);
    }

    static void promise6ParenthesesAreClosed(Check check) {
        good(check, "shut 0 when (1);", 1);
        fault(check, "shut 0 when ( 1;", 1, 15);
        fault(check, "shut 0 when ( );", 1, 14);
        fault(check, "shut 0 when 1 );", 1, 14);
        fault(check, "shut 0 when (1));", 1, 15);
        fault(check, "shut 0 when ((1);", 1, 16);
        fault(check, "shut 0 when 1 ( 2 );", 1, 14);
        fault(check, "shut 0 when (1) 2;", 1, 16);
        fault(check, "shut 0 when (1)(2);", 1, 15);
        fault(check, "shut 0 when );", 1, 12);
    }

    static void promise6InPlaceOfTheOneThereWas(Check check) {
        FieldKeeper x = Calls.keeper(2);
        Calls.read(x, LINE + LINE);
        check.due("two lines", x.count(7), 2);
        Calls.read(x, "shut 1 when 1;");
        check.due("one in place of them", x.count(7), 1);
        x.day(0, 0);
        check.due("the old ones shut nothing", x.field(0, 4), 0);
        check.due("the new one does", x.field(1, 4), 4);
        check.due("an empty one", x.text(), 0);
        check.due("no line", x.count(7), 0);
        x.day(0, 0);
        check.due("nothing is shut", x.field(1, 4), 4);
    }

    /** The document does not say it: a text with a fault is none, so the one there was stays. */
    static void promise6AFaultLeavesTheOneThereWas(Check check) {
        FieldKeeper x = Calls.keeper(2);
        Calls.read(x, "shut 0 when 0; shut 1 when 1;");
        check.due("a fault", Calls.read(x, LINE + LINE + LINE + "shut"), 1 + 16 * 46);
        check.due("the two lines stay", x.count(7), 2);
        check.due("the tape is taken", x.count(8), 0);
        check.due("a fault at once", Calls.read(x, "#"), 1);
        check.due("the two lines stay", x.count(7), 2);
        x.day(0, 0);
        check.due("the first line", x.field(0, 4), 0);
        check.due("the second", x.field(1, 4), 4);
    }

    static void promise6ManyFullTexts(Check check) {
        FieldKeeper x = Calls.keeper(1);
        for (int n = 0; n < 12; n++) {
            check.due("text " + n, Calls.read(x, "shut 0 when 1" + "+1".repeat(250) + "=251 - (" + n + " < 6);"), 0);
            int before = x.field(0, 4);
            x.day(0, 0);
            check.due("hours shut by text " + n, x.field(0, 4) - before, n < 6 ? 0 : 4);
        }
    }

    static void promise6NothingOfAFaultIsLeft(Check check) {
        FieldKeeper x = Calls.keeper(1);
        Calls.read(x, "shut 0 when ((1 + 2 < 3 and");
        check.due("a good one behind it", Calls.read(x, "shut 0 when hour = 2;"), 0);
        check.due("lines", x.count(7), 1);
        x.day(0, 0);
        check.due("hours shut", x.field(0, 4), 1);
    }

    public static void main(String[] args) {
        Check.runTests(Promise06TextTest.class);
    }
}
