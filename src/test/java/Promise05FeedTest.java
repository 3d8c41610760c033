/** Promise 5: feed. */
public final class Promise05FeedTest {
    private static final long EIGHT = 0x4141414141414141L;

    private static void fill(FieldKeeper x, int signs) {
        Calls.feed(x, "A".repeat(signs));
    }

    static void promise5TheSignsAre10And32To126(Check check) {
        for (int sign = 0; sign < 256; sign++) {
            boolean known = sign == 10 || sign >= 32 && sign <= 126;
            FieldKeeper x = new FieldKeeper();
            check.due("sign " + sign, x.feed(0, 0, sign), known ? 1 : 0);
            check.due("count(8)", x.count(8), known ? 1 : 0);
        }
    }

    static void promise5EachOf24PlacesIsRead(Check check) {
        for (int place = 0; place < 24; place++) {
            long[] words = new long[3];
            words[place / 8] = 65L << 56 - 8 * (place % 8);
            FieldKeeper x = new FieldKeeper();
            check.due("place " + place, x.feed(words[0], words[1], words[2]), 1);
        }
        FieldKeeper x = new FieldKeeper();
        check.due("all of them", x.feed(EIGHT, EIGHT, EIGHT), 24);
        check.due("none of them", x.feed(0, 0, 0), 24);
        check.due("a byte of 255 is no sign", x.feed(-1, -1, -1), 24);
        check.due("nor is one of 128", x.feed(Long.MIN_VALUE, Long.MIN_VALUE, Long.MIN_VALUE), 24);
    }

    static void promise5TheHighestByteIsFirst(Check check) {
        FieldKeeper x = new FieldKeeper();
        x.feed(Calls.pack("shut all", 0), Calls.pack(" when 1 ", 0), Calls.pack(";", 0));
        check.due("a, then b, then c", x.text(), 0);
        check.due("a line", x.count(7), 1);
        x.feed(Calls.pack(" when 1 ", 0), Calls.pack("shut all", 0), Calls.pack(";", 0));
        check.due("b before a would be right", x.text(), 1 + 16);
        x.feed(Calls.pack("llatuhs ", 0), 0, 0);
        check.due("the lowest first would be right", x.text(), 1);
    }

    static void promise5WhatIsLeftOutLeavesNoGap(Check check) {
        FieldKeeper x = new FieldKeeper();
        x.feed(Calls.pack("sh\u0000ut \u00ff0", 0), Calls.pack("\u007fwh\u001fen ", 0), Calls.pack("\t1\r;", 0));
        check.due("signs", x.count(8), 13);
        check.due("text", x.text(), 0);
    }

    static void promise5SignsComeBehindTheOnesThere(Check check) {
        FieldKeeper x = new FieldKeeper();
        check.due("some", Calls.feed(x, "shut 0 wh"), 9);
        check.due("more", Calls.feed(x, "en 1;"), 14);
        check.due("text", x.text(), 0);
    }

    static void promise5SixHundredAreTheMost(Check check) {
        FieldKeeper x = new FieldKeeper();
        for (int n = 1; n <= 25; n++) {
            check.due("feed " + n, x.feed(EIGHT, EIGHT, EIGHT), 24 * n);
        }
        check.due("beyond", x.feed(EIGHT, EIGHT, EIGHT), 600);
        check.due("one beyond", x.feed(0, 0, 65), 600);
        check.due("count(8)", x.count(8), 600);
    }

    static void promise5APartOfAFeedGoesBeyond(Check check) {
        for (int before = 576; before <= 600; before++) {
            FieldKeeper x = new FieldKeeper();
            fill(x, before);
            check.due("before", x.count(8), before);
            check.due("24 behind " + before, x.feed(EIGHT, EIGHT, EIGHT), 600);
        }
        FieldKeeper x = new FieldKeeper();
        fill(x, 575);
        check.due("24 behind 575", x.feed(EIGHT, EIGHT, EIGHT), 599);
    }

    static void promise5TheFirstOnesAreKept(Check check) {
        String blanks = " ".repeat(599 - 13);
        FieldKeeper x = new FieldKeeper();
        Calls.feed(x, "shut 0 when 1" + blanks);
        check.due("the 600th sign", Calls.feed(x, ";#"), 600);
        check.due("is read, the 601st is not", x.text(), 0);
        Calls.feed(x, "shut 0 when 1" + blanks + " ");
        check.due("the 601st sign", Calls.feed(x, ";"), 600);
        check.due("is left out", x.text(), 1 + 16 * 600);
    }

    static void promise5WhatIsNoSignTakesNoRoom(Check check) {
        FieldKeeper x = new FieldKeeper();
        fill(x, 599);
        check.due("23 that are none", x.feed(0, -1, 0x0707070707070741L), 600);
    }

    static void promise5ATextTakesTheTape(Check check) {
        FieldKeeper x = new FieldKeeper();
        fill(x, 600);
        x.text();
        check.due("count(8)", x.count(8), 0);
        check.due("room again", x.feed(0, 0, 65), 1);
        fill(x, 599);
        check.due("for 600", x.count(8), 600);
    }

    public static void main(String[] args) {
        Check.runTests(Promise05FeedTest.class);
    }
}
