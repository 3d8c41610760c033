import java.util.NoSuchElementException;

/** Playing fields, their grass and their games, as the document DOC.md promises. */
public final class FieldKeeper {
    public static final int NONE = -1;

    private static final int MAX_PITCHES = 6;
    private static final int MAX_GAMES = 60;
    private static final int CLUBS = 16;
    private static final int AGES = 3;
    private static final int MAX_RANK = 9;
    private static final int WEEKS = 51;
    private static final int WEEK_DAYS = 7;
    private static final int MAX_DAYS = WEEKS * WEEK_DAYS;
    private static final int HOURS = 4;
    private static final int DAY_SLOTS = HOURS * MAX_PITCHES;
    private static final int ALL_WISHES = (1 << WEEK_DAYS * HOURS) - 1;
    private static final int MAX_WEATHER = 10;

    private static final int NEW = 0;
    private static final int LAID = 1;
    private static final int PLAYED = 2;
    private static final int CALLED_OFF = 3;

    private final Pitch[] pitches = new Pitch[MAX_PITCHES];
    private final Game[] games = new Game[MAX_GAMES];
    private final int[] takers = new int[AGES];
    private final int[] clubPlayed = new int[CLUBS];
    private final int[] clubLost = new int[CLUBS];
    private final int[] clubOff = new int[CLUBS];
    private final int[] told = new int[Tokens.NAME_COUNT];
    private final Board board = new Board();
    private final Tape tape = new Tape();
    private final Tokens tokens = new Tokens();
    private final Reader reader = new Reader(tokens);
    private Rules rules = new Rules();
    private Rules spareRules = new Rules();
    private int pitchCount;
    private int gameCount;
    private int daysOver;

    public FieldKeeper() {
        pitchCount = 0;
        gameCount = 0;
        daysOver = 0;
    }

    public int pitch(int age, int stand) {
        if (age < 0 || age >= AGES || stand < 0 || stand > 1) {
            return NONE;
        }
        if (pitchCount >= pitches.length || daysOver > 0) {
            return NONE;
        }
        int number = pitchCount;
        pitches[number] = new Pitch(stand);
        for (int young = 0; young <= age; young++) {
            takers[young] |= 1 << number;
        }
        pitchCount++;
        return number;
    }

    public int game(int a, int b, int age, int rank, int week, int wishes) {
        if (!isClub(a) || !isClub(b) || a == b) {
            return NONE;
        }
        if (age < 0 || age >= AGES || rank < 0 || rank > MAX_RANK) {
            return NONE;
        }
        if (!isWeekToCome(week) || wishes <= 0 || wishes > ALL_WISHES || gameCount >= games.length) {
            return NONE;
        }
        int number = gameCount;
        games[number] = new Game(a, b, age, rank, week, wishes);
        gameCount++;
        return number;
    }

    public int lay(int week) {
        if (!isWeekToCome(week)) {
            return NONE;
        }
        showWeek(week);
        for (int rank = MAX_RANK; rank >= 0; rank--) {
            for (int n = 0; n < gameCount; n++) {
                Game game = games[n];
                if (game.week == week && game.state == NEW && game.rank == rank) {
                    layGame(game);
                }
            }
        }
        return newGamesOf(week);
    }

    public int feed(long a, long b, long c) {
        tape.addBytes(a);
        tape.addBytes(b);
        tape.addBytes(c);
        return tape.size;
    }

    public int text() {
        tokens.cut(tape);
        tape.size = 0;
        int fault = reader.read(spareRules);
        if (fault == 0) {
            Rules old = rules;
            rules = spareRules;
            spareRules = old;
        }
        return fault;
    }

    public int day(int warm, int wet) {
        if (warm < 0 || warm > MAX_WEATHER || wet < 0 || wet > MAX_WEATHER || daysOver >= MAX_DAYS) {
            return NONE;
        }
        int today = daysOver;
        showWeek(today / WEEK_DAYS);
        if (today % WEEK_DAYS == 0) {
            beginWeek();
        }
        told[Tokens.WET - Tokens.FIRST_NAME] = wet;
        told[Tokens.WARM - Tokens.FIRST_NAME] = warm;
        told[Tokens.DAY - Tokens.FIRST_NAME] = today % WEEK_DAYS;
        for (int hour = 0; hour < HOURS; hour++) {
            for (int n = 0; n < pitchCount; n++) {
                passHour(today, hour, n);
            }
        }
        for (int n = 0; n < pitchCount; n++) {
            pitches[n].now.grow(warm, wet);
            pitches[n].other.grow(warm, wet);
        }
        daysOver++;
        return today;
    }

    public int turn(int pitch) {
        if (!isPitch(pitch)) {
            return NONE;
        }
        Pitch turned = pitches[pitch];
        turned.other.stand = turned.now.stand;
        turned.now.stand = 1 - turned.now.stand;
        return turned.now.stand;
    }

    public int grass(int pitch, int row, int column) {
        if (!isPitch(pitch) || row < 0 || row >= Turf.ROWS || column < 0 || column >= Turf.COLUMNS) {
            return NONE;
        }
        return pitches[pitch].now.cells[row * Turf.COLUMNS + column];
    }

    public int look(int game, int what) throws NoSuchElementException {
        if (game < 0 || game >= gameCount || what < 0 || what > 4) {
            throw new NoSuchElementException("no such game, or nothing such to tell of it");
        }
        Game seen = games[game];
        switch (what) {
            case 0:
                return seen.state;
            case 1:
                return seen.slot == NONE ? NONE : seen.week * WEEK_DAYS + seen.slot / DAY_SLOTS;
            case 2:
                return seen.slot == NONE ? NONE : seen.slot % DAY_SLOTS / MAX_PITCHES;
            case 3:
                return seen.slot == NONE ? NONE : seen.slot % MAX_PITCHES;
            default:
                return seen.moves;
        }
    }

    public int at(int day, int hour, int pitch) {
        if (day < 0 || day >= MAX_DAYS || hour < 0 || hour >= HOURS || !isPitch(pitch)) {
            return NONE;
        }
        return gameIn(day / WEEK_DAYS, slotOf(day, hour, pitch));
    }

    public int club(int club, int what) {
        if (!isClub(club)) {
            return NONE;
        }
        switch (what) {
            case 0:
                return clubPlayed[club];
            case 1:
                return clubLost[club];
            case 2:
                return clubOff[club];
            default:
                return NONE;
        }
    }

    public int field(int pitch, int what) {
        if (!isPitch(pitch)) {
            return NONE;
        }
        Pitch seen = pitches[pitch];
        switch (what) {
            case 0:
                return seen.now.stand;
            case 1:
                return seen.now.least();
            case 2:
                return seen.now.mean();
            case 3:
                return seen.played;
            case 4:
                return seen.hoursShut;
            case 5:
                return seen.now.worn;
            default:
                return NONE;
        }
    }

    public int would(int pitch, int what) {
        if (!isPitch(pitch)) {
            return NONE;
        }
        Turf other = pitches[pitch].other;
        switch (what) {
            case 0:
                return other.least();
            case 1:
                return other.mean();
            case 2:
                return other.worn;
            default:
                return NONE;
        }
    }

    public int count(int what) {
        switch (what) {
            case 0:
                return pitchCount;
            case 1:
                return gameCount;
            case 2:
                return daysOver;
            case 3:
                return gamesThatAre(NEW);
            case 4:
                return gamesThatAre(LAID);
            case 5:
                return gamesThatAre(PLAYED);
            case 6:
                return gamesThatAre(CALLED_OFF);
            case 7:
                return rules.lineCount;
            case 8:
                return tape.size;
            case 9:
                return allHoursShut();
            default:
                return NONE;
        }
    }

    private static boolean isClub(int number) {
        return number >= 0 && number < CLUBS;
    }

    private boolean isPitch(int number) {
        return number >= 0 && number < pitchCount;
    }

    private boolean isWeekToCome(int week) {
        return week >= 0 && week < WEEKS && daysOver < (week + 1) * WEEK_DAYS;
    }

    private static int slotOf(int anyDay, int hour, int pitch) {
        return anyDay % WEEK_DAYS * DAY_SLOTS + hour * MAX_PITCHES + pitch;
    }

    private int gameIn(int week, int slot) {
        for (int n = 0; n < gameCount; n++) {
            if (games[n].week == week && games[n].slot == slot) {
                return n;
            }
        }
        return NONE;
    }

    private int gamesThatAre(int state) {
        int found = 0;
        for (int n = 0; n < gameCount; n++) {
            if (games[n].state == state) {
                found++;
            }
        }
        return found;
    }

    private int newGamesOf(int week) {
        int found = 0;
        for (int n = 0; n < gameCount; n++) {
            if (games[n].week == week && games[n].state == NEW) {
                found++;
            }
        }
        return found;
    }

    private int allHoursShut() {
        int sum = 0;
        for (int n = 0; n < pitchCount; n++) {
            sum += pitches[n].hoursShut;
        }
        return sum;
    }

    private void showWeek(int week) {
        board.clear();
        for (int n = 0; n < gameCount; n++) {
            if (games[n].week == week && games[n].slot != NONE) {
                board.put(games[n].slot, games[n].clubs);
            }
        }
    }

    private void layGame(Game game) {
        int slot = firstWish(game, NONE);
        if (slot == NONE) {
            layInPlaceOfAnother(game);
        } else {
            board.put(slot, game.clubs);
            game.slot = slot;
            game.state = LAID;
        }
    }

    private int firstWish(Game game, int but) {
        int firstDay = daysOver - game.week * WEEK_DAYS;
        return board.firstSlot(game.clubs, takers[game.age], game.wishes, firstDay, but);
    }

    private void layInPlaceOfAnother(Game game) {
        boolean done = false;
        for (int n = 0; n < gameCount && !done; n++) {
            if (games[n].week == game.week && games[n].state == LAID) {
                done = givesWay(games[n], game);
            }
        }
    }

    private boolean givesWay(Game laid, Game game) {
        board.drop(laid.slot, laid.clubs);
        int slot = firstWish(game, NONE);
        if (slot != NONE) {
            board.put(slot, game.clubs);
            int next = firstWish(laid, laid.slot);
            if (next != NONE) {
                board.put(next, laid.clubs);
                laid.slot = next;
                game.slot = slot;
                game.state = LAID;
                return true;
            }
            board.drop(slot, game.clubs);
        }
        board.put(laid.slot, laid.clubs);
        return false;
    }

    private void beginWeek() {
        for (int n = 0; n < pitchCount; n++) {
            pitches[n].playedThisWeek = 0;
        }
    }

    private void passHour(int today, int hour, int number) {
        int slot = slotOf(today, hour, number);
        int lying = board.has(slot) ? gameIn(today / WEEK_DAYS, slot) : NONE;
        Pitch pitch = pitches[number];
        if (isShut(number, hour, lying == NONE ? NONE : games[lying].age)) {
            pitch.hoursShut++;
            if (lying != NONE) {
                sendAway(games[lying], today % WEEK_DAYS);
            }
        } else if (lying != NONE) {
            playGame(games[lying], pitch);
        }
    }

    private boolean isShut(int number, int hour, int age) {
        if (rules.lineCount == 0) {
            return false;
        }
        Pitch pitch = pitches[number];
        told[Tokens.LEAST - Tokens.FIRST_NAME] = pitch.now.least();
        told[Tokens.MEAN - Tokens.FIRST_NAME] = pitch.now.mean();
        told[Tokens.PLAYED_WORD - Tokens.FIRST_NAME] = pitch.playedThisWeek;
        told[Tokens.HOUR - Tokens.FIRST_NAME] = hour;
        told[Tokens.AGE - Tokens.FIRST_NAME] = age;
        return rules.shut(number, told);
    }

    private void sendAway(Game game, int weekDay) {
        clubLost[game.a]++;
        clubLost[game.b]++;
        int slot = board.firstSlot(game.clubs, takers[game.age], ALL_WISHES, weekDay + 1, NONE);
        board.drop(game.slot, game.clubs);
        game.slot = slot;
        if (slot == NONE) {
            game.state = CALLED_OFF;
            clubOff[game.a]++;
            clubOff[game.b]++;
        } else {
            board.put(slot, game.clubs);
            game.moves++;
        }
    }

    private void playGame(Game game, Pitch pitch) {
        int wet = told[Tokens.WET - Tokens.FIRST_NAME];
        game.state = PLAYED;
        clubPlayed[game.a]++;
        clubPlayed[game.b]++;
        pitch.played++;
        pitch.playedThisWeek++;
        pitch.now.wear(game.age, wet);
        pitch.other.wear(game.age, wet);
    }

    /** The cells of a pitch, as it stands or as it would if it stood the other way. */
    private static final class Turf {
        static final int ROWS = 4;
        static final int COLUMNS = 6;
        private static final int CELLS = ROWS * COLUMNS;
        private static final int FULL = 1000;
        private static final int AT_FIRST = 800;
        private static final int[] STANDING_0 = {
            1, 1, 1, 1, 1, 1,
            3, 1, 2, 2, 1, 3,
            3, 1, 2, 2, 1, 3,
            1, 1, 1, 1, 1, 1};
        private static final int[] STANDING_1 = {
            1, 1, 3, 3, 1, 1,
            1, 1, 2, 2, 1, 1,
            1, 1, 2, 2, 1, 1,
            1, 1, 3, 3, 1, 1};

        final int[] cells = new int[CELLS];
        int stand;
        int worn;

        Turf(int stand) {
            this.stand = stand;
            for (int i = 0; i < CELLS; i++) {
                cells[i] = AT_FIRST;
            }
        }

        void wear(int age, int wet) {
            for (int i = 0; i < CELLS; i++) {
                int factor = stand == 0 ? STANDING_0[i] : STANDING_1[i];
                int due = (4 + 2 * age) * factor * (10 + wet) / 10;
                int lost = Math.min(due, cells[i]);
                cells[i] -= lost;
                worn += lost;
            }
        }

        void grow(int warm, int wet) {
            int drowned = wet >= 9 ? 10 : 0;
            int growth = warm * (10 - 2 * Math.abs(wet - 5));
            for (int i = 0; i < CELLS; i++) {
                int left = Math.max(0, cells[i] - drowned);
                cells[i] = left + (FULL - left) * growth / 2000;
            }
        }

        int least() {
            int least = FULL;
            for (int i = 0; i < CELLS; i++) {
                least = Math.min(least, cells[i]);
            }
            return least;
        }

        int mean() {
            int sum = 0;
            for (int i = 0; i < CELLS; i++) {
                sum += cells[i];
            }
            return sum / CELLS;
        }
    }

    private static final class Pitch {
        final Turf now;
        final Turf other;
        int played;
        int playedThisWeek;
        int hoursShut;

        Pitch(int stand) {
            now = new Turf(stand);
            other = new Turf(1 - stand);
        }
    }

    /** A game; its slot is counted within its own week, which it never leaves. */
    private static final class Game {
        final int a;
        final int b;
        final int clubs;
        final int age;
        final int rank;
        final int week;
        final int wishes;
        int state = NEW;
        int slot = NONE;
        int moves;

        Game(int a, int b, int age, int rank, int week, int wishes) {
            this.a = a;
            this.b = b;
            this.clubs = 1 << a | 1 << b;
            this.age = age;
            this.rank = rank;
            this.week = week;
            this.wishes = wishes;
        }
    }

    /**
     * One week's slots that have a game and the clubs that have one on each day,
     * as bits, so that trying each laid game for each new one stays cheap.
     */
    private static final class Board {
        private static final int HOUR_SLOTS = (1 << MAX_PITCHES) - 1;

        private final int[] taken = new int[WEEK_DAYS];
        private final int[] busy = new int[WEEK_DAYS];

        void clear() {
            for (int d = 0; d < WEEK_DAYS; d++) {
                taken[d] = 0;
                busy[d] = 0;
            }
        }

        void put(int slot, int clubs) {
            if (isSlot(slot)) {
                taken[slot / DAY_SLOTS] |= 1 << slot % DAY_SLOTS;
                busy[slot / DAY_SLOTS] |= clubs;
            }
        }

        // A club has one game a day at most, so its bit goes with the game.
        void drop(int slot, int clubs) {
            if (isSlot(slot)) {
                taken[slot / DAY_SLOTS] &= ~(1 << slot % DAY_SLOTS);
                busy[slot / DAY_SLOTS] &= ~clubs;
            }
        }

        boolean has(int slot) {
            return isSlot(slot) && (taken[slot / DAY_SLOTS] >>> slot % DAY_SLOTS & 1) != 0;
        }

        int firstSlot(int clubs, int pitchSet, int wishes, int firstDay, int but) {
            for (int d = Math.max(0, firstDay); d < WEEK_DAYS; d++) {
                if ((busy[d] & clubs) == 0) {
                    int open = slotsOfDay(pitchSet, wishes >>> d * HOURS) & ~taken[d];
                    if (isSlot(but) && but / DAY_SLOTS == d) {
                        open &= ~(1 << but % DAY_SLOTS);
                    }
                    if (open != 0) {
                        return d * DAY_SLOTS + lowestBit(open);
                    }
                }
            }
            return NONE;
        }

        private static boolean isSlot(int slot) {
            return slot >= 0 && slot < WEEK_DAYS * DAY_SLOTS;
        }

        private static int slotsOfDay(int pitchSet, int hourSet) {
            int slots = 0;
            for (int hour = 0; hour < HOURS; hour++) {
                if ((hourSet >>> hour & 1) != 0) {
                    slots |= (pitchSet & HOUR_SLOTS) << hour * MAX_PITCHES;
                }
            }
            return slots;
        }

        private static int lowestBit(int slots) {
            int bit = 0;
            while (bit < DAY_SLOTS - 1 && (slots >>> bit & 1) == 0) {
                bit++;
            }
            return bit;
        }
    }

    private static final class Tape {
        static final int MAX_SIGNS = 600;

        final char[] signs = new char[MAX_SIGNS];
        int size;

        void addBytes(long bytes) {
            for (int shift = 56; shift >= 0; shift -= 8) {
                int sign = (int) (bytes >>> shift & 255L);
                boolean known = sign == 10 || sign >= 32 && sign <= 126;
                if (known && size < MAX_SIGNS) {
                    signs[size] = (char) sign;
                    size++;
                }
            }
        }
    }

    /** The tokens of a tape in three rows, with the end as the last one. */
    private static final class Tokens {
        static final int END = 0;
        static final int NO_TOKEN = 1;
        static final int NUMBER = 2;
        static final int SHUT = 3;
        static final int ALL = 4;
        static final int WHEN = 5;
        static final int AND = 6;
        static final int WET = 7;
        static final int WARM = 8;
        static final int LEAST = 9;
        static final int MEAN = 10;
        static final int PLAYED_WORD = 11;
        static final int DAY = 12;
        static final int HOUR = 13;
        static final int AGE = 14;
        static final int FIRST_NAME = WET;
        static final int NAME_COUNT = AGE - WET + 1;

        private static final int BLANK = 0;
        private static final int LETTER = 1;
        private static final int DIGIT = 2;
        private static final int MARK = 3;
        private static final int MAX_LETTERS = 8;
        private static final int MAX_DIGITS = 4;

        final int[] kind = new int[Tape.MAX_SIGNS + 1];
        final int[] place = new int[Tape.MAX_SIGNS + 1];
        final int[] value = new int[Tape.MAX_SIGNS + 1];
        int size;

        /** A sign's own number is the kind of a mark: no mark's number is as small as AGE. */
        void cut(Tape tape) {
            int begin = 0;
            int before = BLANK;
            size = 0;
            for (int i = 0; i < tape.size; i++) {
                int sort = sortOf(tape.signs[i]);
                if (sort != before || sort == MARK) {
                    addToken(tape, before, begin, i);
                    begin = i;
                }
                before = sort;
            }
            addToken(tape, before, begin, tape.size);
            kind[size] = END;
            place[size] = tape.size;
        }

        private static int sortOf(char sign) {
            if (sign == 10 || sign == ' ') {
                return BLANK;
            }
            if (sign >= 'a' && sign <= 'z') {
                return LETTER;
            }
            return sign >= '0' && sign <= '9' ? DIGIT : MARK;
        }

        private void addToken(Tape tape, int sort, int from, int to) {
            if (sort == BLANK || size >= Tape.MAX_SIGNS) {
                return;
            }
            place[size] = from;
            value[size] = 0;
            if (sort == LETTER) {
                kind[size] = to - from > MAX_LETTERS ? NO_TOKEN : wordKind(tape.signs, from, to);
            } else if (sort == DIGIT) {
                kind[size] = to - from > MAX_DIGITS ? NO_TOKEN : NUMBER;
                value[size] = to - from > MAX_DIGITS ? 0 : numberValue(tape.signs, from, to);
            } else {
                kind[size] = markKind(tape.signs[from]);
            }
            size++;
        }

        private static int markKind(int sign) {
            switch (sign) {
                case '(':
                case ')':
                case '<':
                case '=':
                case '+':
                case '-':
                case ';':
                    return sign;
                default:
                    return NO_TOKEN;
            }
        }

        private static int numberValue(char[] signs, int from, int to) {
            int number = 0;
            for (int i = from; i < to && i < signs.length; i++) {
                number = number * 10 + (signs[i] - '0');
            }
            return number;
        }

        // A word that stands nowhere is as wrong in every place as what is no token.
        private static int wordKind(char[] signs, int from, int to) {
            switch (to - from) {
                case 3:
                    return shortWordKind(signs, from);
                case 4:
                    return fourLetterKind(signs, from);
                case 5:
                    return spells(signs, from, "least") ? LEAST : NO_TOKEN;
                case 6:
                    return spells(signs, from, "played") ? PLAYED_WORD : NO_TOKEN;
                default:
                    return NO_TOKEN;
            }
        }

        private static int shortWordKind(char[] signs, int from) {
            if (spells(signs, from, "all")) {
                return ALL;
            }
            if (spells(signs, from, "and")) {
                return AND;
            }
            if (spells(signs, from, "wet")) {
                return WET;
            }
            if (spells(signs, from, "day")) {
                return DAY;
            }
            return spells(signs, from, "age") ? AGE : NO_TOKEN;
        }

        private static int fourLetterKind(char[] signs, int from) {
            if (spells(signs, from, "shut")) {
                return SHUT;
            }
            if (spells(signs, from, "when")) {
                return WHEN;
            }
            if (spells(signs, from, "warm")) {
                return WARM;
            }
            if (spells(signs, from, "mean")) {
                return MEAN;
            }
            return spells(signs, from, "hour") ? HOUR : NO_TOKEN;
        }

        private static boolean spells(char[] signs, int from, String word) {
            for (int i = 0; i < word.length(); i++) {
                if (from + i >= signs.length || signs[from + i] != word.charAt(i)) {
                    return false;
                }
            }
            return true;
        }
    }

    /** Reads tokens as a text; after a fault nothing more is taken. */
    private static final class Reader {
        private static final int MISPLACED = 1;
        private static final int NO_SUCH_PITCH = 4;
        private static final int TOO_MANY = 5;
        private static final int MAX_DEPTH = 5;

        private final Tokens tokens;
        private Rules target;
        private int next;
        private int fault;

        Reader(Tokens tokens) {
            this.tokens = tokens;
        }

        int read(Rules into) {
            target = into;
            target.clear();
            next = 0;
            fault = 0;
            for (int line = 0; line <= Rules.MAX_LINES && fault == 0 && !sees(Tokens.END); line++) {
                readLine(line);
            }
            return fault;
        }

        private void readLine(int line) {
            if (sees(Tokens.SHUT) && line >= Rules.MAX_LINES) {
                refuse(TOO_MANY);
                return;
            }
            take(Tokens.SHUT);
            int pitch = readWhich();
            take(Tokens.WHEN);
            readAnds(0);
            take(';');
            if (fault == 0) {
                target.endLine(pitch);
            }
        }

        private int readWhich() {
            if (sees(Tokens.ALL)) {
                step();
                return Rules.EACH_PITCH;
            }
            int number = tokens.value[next];
            if (sees(Tokens.NUMBER) && number >= MAX_PITCHES) {
                refuse(NO_SUCH_PITCH);
            }
            take(Tokens.NUMBER);
            return number;
        }

        private void readAnds(int depth) {
            readTest(depth);
            for (int n = 0; n < Tape.MAX_SIGNS && sees(Tokens.AND); n++) {
                step();
                readTest(depth);
                target.put(Rules.JOINS + Tokens.AND);
            }
        }

        private void readTest(int depth) {
            readSum(depth);
            if (sees('<') || sees('=')) {
                int sign = tokens.kind[next];
                step();
                readSum(depth);
                target.put(Rules.JOINS + sign);
            }
        }

        private void readSum(int depth) {
            readPart(depth);
            for (int n = 0; n < Tape.MAX_SIGNS && (sees('+') || sees('-')); n++) {
                int sign = tokens.kind[next];
                step();
                readPart(depth);
                target.put(Rules.JOINS + sign);
            }
        }

        private void readPart(int depth) {
            int kind = tokens.kind[next];
            boolean isName = kind >= Tokens.WET && kind <= Tokens.AGE;
            if (kind != Tokens.NUMBER && kind != '(' && !isName) {
                refuse(MISPLACED);
            } else if (depth >= MAX_DEPTH) {
                refuse(TOO_MANY);
            }
            if (fault != 0) {
                return;
            }
            int value = tokens.value[next];
            step();
            if (kind == '(') {
                readAnds(depth + 1);
                take(')');
            } else if (isName) {
                target.put(Rules.NAMES + kind - Tokens.FIRST_NAME);
            } else {
                target.put(value);
            }
        }

        private boolean sees(int kind) {
            return fault == 0 && tokens.kind[next] == kind;
        }

        // The end is never stepped over, so that next always is a token's number.
        private void step() {
            if (next < tokens.size) {
                next++;
            }
        }

        private void take(int kind) {
            if (fault == 0 && tokens.kind[next] != kind) {
                fault = MISPLACED + 16 * tokens.place[next];
            } else if (fault == 0 && next < tokens.size) {
                next++;
            }
        }

        private void refuse(int kind) {
            if (fault == 0) {
                fault = kind + 16 * tokens.place[next];
            }
        }
    }

    /** The lines of a text, each sum and test written with its joins behind their two sides. */
    private static final class Rules {
        static final int MAX_LINES = 16;
        static final int EACH_PITCH = -1;
        static final int NAMES = 10000;
        static final int JOINS = 20000;
        // Each of the five depths can hold three open left sides, and one value more is at hand.
        private static final int MAX_OPEN = 16;

        private final int[] code = new int[Tape.MAX_SIGNS];
        private final int[] lineEnd = new int[MAX_LINES];
        private final int[] linePitch = new int[MAX_LINES];
        private final int[] open = new int[MAX_OPEN];
        private int codeSize;
        private int openSize;
        int lineCount;

        void clear() {
            codeSize = 0;
            lineCount = 0;
        }

        /** A number as it is, a name from NAMES on, a join of the two values before it from JOINS on. */
        void put(int step) {
            if (codeSize < code.length) {
                code[codeSize] = step;
                codeSize++;
            }
        }

        void endLine(int pitch) {
            if (lineCount < MAX_LINES) {
                lineEnd[lineCount] = codeSize;
                linePitch[lineCount] = pitch;
                lineCount++;
            }
        }

        boolean shut(int pitch, int[] told) {
            int from = 0;
            for (int line = 0; line < lineCount; line++) {
                boolean meant = linePitch[line] == EACH_PITCH || linePitch[line] == pitch;
                if (meant && worth(from, lineEnd[line], told) != 0) {
                    return true;
                }
                from = lineEnd[line];
            }
            return false;
        }

        private int worth(int from, int to, int[] told) {
            openSize = 0;
            for (int i = from; i < to && i < code.length; i++) {
                int step = code[i];
                if (step < NAMES) {
                    push(step);
                } else if (step < JOINS) {
                    int name = step - NAMES;
                    push(name < told.length ? told[name] : 0);
                } else {
                    int right = pop();
                    int left = pop();
                    push(join(step - JOINS, left, right));
                }
            }
            return pop();
        }

        private void push(int value) {
            if (openSize < open.length) {
                open[openSize] = value;
                openSize++;
            }
        }

        private int pop() {
            if (openSize == 0) {
                return 0;
            }
            openSize--;
            return open[openSize];
        }

        private static int join(int sign, int left, int right) {
            switch (sign) {
                case '+':
                    return left + right;
                case '-':
                    return left - right;
                case '<':
                    return left < right ? 1 : 0;
                case '=':
                    return left == right ? 1 : 0;
                default:
                    return left != 0 && right != 0 ? 1 : 0;
            }
        }
    }
}
