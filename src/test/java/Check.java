import java.util.NoSuchElementException;

/** Counts the answers that are not as due, and tells them. */
final class Check {
    static final int THROWN = Integer.MIN_VALUE;

    private int wrong;
    private int asked;

    void due(String call, long got, long want) {
        asked++;
        if (got != want) {
            wrong++;
            System.out.println(call + " answered " + got + ", due is " + want);
        }
    }

    /** What look answers, or THROWN where it throws what the document names. */
    static int look(FieldKeeper keeper, int game, int what) {
        try {
            return keeper.look(game, what);
        } catch (NoSuchElementException e) {
            return THROWN;
        }
    }

    static int feed(FieldKeeper keeper, String text) {
        int size = keeper.count(8);
        for (int from = 0; from < text.length(); from += 24) {
            size = keeper.feed(pack(text, from), pack(text, from + 8), pack(text, from + 16));
        }
        return size;
    }

    static long pack(String text, int from) {
        long packed = 0;
        for (int i = from; i < from + 8; i++) {
            packed = packed << 8 | (i < text.length() ? text.charAt(i) & 255 : 0);
        }
        return packed;
    }

    static int read(FieldKeeper keeper, String text) {
        feed(keeper, text);
        return keeper.text();
    }

    /** A game's whole place in one number: day, hour, pitch; or -1. */
    static int place(FieldKeeper keeper, int game) {
        int day = look(keeper, game, 1);
        return day < 0 ? day : day * 100 + look(keeper, game, 2) * 10 + look(keeper, game, 3);
    }

    void finish() {
        System.out.println(wrong == 0 ? asked + " answers are as due" : wrong + " of " + asked + " answers are not as due");
        if (wrong != 0) {
            System.exit(1);
        }
    }
}
