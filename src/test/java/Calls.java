import java.util.NoSuchElementException;

/** Calls that the tests make again and again. */
final class Calls {
    static final int THROWN = Integer.MIN_VALUE;
    static final int ALL_WISHES = (1 << 28) - 1;
    static final int MIN = Integer.MIN_VALUE;
    static final int MAX = Integer.MAX_VALUE;

    private Calls() {
    }

    static int wish(int day, int hour) {
        return 1 << 4 * day + hour;
    }

    /** A keeper with pitches that take each age and stand 0. */
    static FieldKeeper keeper(int pitches) {
        FieldKeeper keeper = new FieldKeeper();
        for (int n = 0; n < pitches; n++) {
            keeper.pitch(2, 0);
        }
        return keeper;
    }

    /** Days go by that change no grass but by games: warm 0, wet 0. */
    static void plainDays(FieldKeeper keeper, int days) {
        for (int n = 0; n < days; n++) {
            keeper.day(0, 0);
        }
    }

    /** What look answers, or THROWN where it throws what the document names. */
    static int look(FieldKeeper keeper, int game, int what) {
        try {
            return keeper.look(game, what);
        } catch (NoSuchElementException e) {
            return THROWN;
        }
    }

    /** A game's whole place in one number: day, hour, pitch; or -1. */
    static int place(FieldKeeper keeper, int game) {
        int day = look(keeper, game, 1);
        return day < 0 ? day : day * 100 + look(keeper, game, 2) * 10 + look(keeper, game, 3);
    }

    static int feed(FieldKeeper keeper, String text) {
        int size = keeper.count(8);
        for (int from = 0; from < text.length(); from += 24) {
            size = keeper.feed(pack(text, from), pack(text, from + 8), pack(text, from + 16));
        }
        return size;
    }

    /** Eight signs of a text as the bytes of a long, the first one highest. */
    static long pack(String text, int from) {
        long packed = 0;
        for (int i = from; i < from + 8; i++) {
            packed = packed << 8 | (i < text.length() ? text.charAt(i) & 255 : 0);
        }
        return packed;
    }

    static int read(FieldKeeper keeper, String text) {
        feed(keeper, text);
        return keeper.text();
    }

    /** How much a cell wears: the document's F. */
    static int factor(int stand, int row, int column) {
        boolean innerRow = row == 1 || row == 2;
        boolean innerColumn = column == 2 || column == 3;
        if (innerRow && innerColumn) {
            return 2;
        }
        boolean goal = stand == 0 ? innerRow && (column == 0 || column == 5) : innerColumn;
        return goal ? 3 : 1;
    }
}
