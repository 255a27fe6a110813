import java.util.Arrays;

/** One key for all cells: a gaol that is told in texts, acts in it, and what can be foretold of it. */
public final class OneKey {
    public static final int NONE = -1, UNKNOWN = -2, OUTSIDE = -3, NOT = -4, FULL = -5;

    private static final int MOST_ROOMS = 6, LEAST_ROOMS = 2, MOST_DOORS = 10, MOST_HUNGRY = 4, MOST_TURNS = 3;
    private static final int GUARDS = 2, KEPT = 2;
    private static final int MOST_BYTES = 200, MOST_AT_ONCE = 8, MOST_LINES = 10;
    private static final int MOST_IN_ROW = 20, MOST_HEARD = 8, MOST_MINUTES = 10;
    private static final int MOST_TENTHS = 10, MOST_MORE = 6, MOST_STUCK = 10;

    /** Kinds of doors, as texts tell them. */
    private static final int PLAIN = 0, ONEWAY = 1, TWO = 2, WEIGHED = 3, STICKING = 4, FALSE = 5;

    /** Each told kind stands this far behind in the row of kinds that are over one another. */
    private static final int KINDS_AHEAD = 2;

    /** The kind that is over each one, for DOOR, REAL, PLAIN, ONEWAY, TWO, WEIGHED, STICKING, FALSE. */
    private static final int[] OVER = {NONE, 0, 1, 2, 1, 2, 3, 0};

    /** What a guard has. */
    private static final int NOTHING = 0, LOAF = 1, KEY = 2;

    /** Codes of acts; those of doors have the door's number added. */
    private static final int TAKE = 0, HANG = 1, BREAD = 2, FEED = 3, HAND = 4, GO = 14, BOTH = 24, SOAP = 34;
    private static final int CODES_END = 44, CODES_OF_GUARD = 50, CODES = 100;

    /** What a row of acts is sought for. */
    private static final int ALL_FED = 0, BOTH_OUT = 1;

    private final Reader text = new Reader();
    private final Gaol told = new Gaol();
    private final Gaol draft = new Gaol();
    private final Acts acts = new Acts(told);
    private final Foretold foretold = new Foretold(told, new Search(told, acts));
    private final Night dark = new Night(told);
    private final int[] rowCodes = new int[MOST_IN_ROW];
    private final int[] keptStanding = new int[KEPT];
    private final int[] keptMinutes = new int[KEPT];
    private int rowLength;
    private int standing;
    private int minutes;

    public OneKey() {
        beginAsTold();
    }

    // ---- what is told

    public int write(long bytes, int n) {
        if (n < 1 || n > MOST_AT_ONCE) {
            return OUTSIDE;
        }
        return text.add(bytes, n) ? text.length : FULL;
    }

    public int erase() {
        return text.empty();
    }

    public int fault() {
        draft.copyFrom(told);
        return text.readInto(draft);
    }

    public int gaol() {
        draft.copyFrom(told);
        if (text.readInto(draft) != NONE) {
            return NOT;
        }
        told.copyFrom(draft);
        text.empty();
        beginAsTold();
        return text.lines;
    }

    public int room(int room, int what) {
        if (!told.hasRoom(room)) {
            return UNKNOWN;
        }
        switch (what) {
            case 0:
                return Standing.hungryIn(standing, room) ? 1 : 0;
            case 1:
                return guardsIn(room);
            case 2:
                return Standing.keyPlace(standing) == room ? 1 : 0;
            case 3:
                return told.kitchen == room ? 1 : 0;
            default:
                return OUTSIDE;
        }
    }

    public int door(int door, int what) {
        if (!told.hasDoor(door)) {
            return UNKNOWN;
        }
        switch (what) {
            case 0:
                return told.first[door];
            case 1:
                return told.second[door];
            case 2:
                return told.kind[door];
            case 3:
                return told.wicket[door];
            default:
                return OUTSIDE;
        }
    }

    public int as(int door, int as) {
        if (!told.hasDoor(door)) {
            return UNKNOWN;
        }
        if (as < 0 || as >= OVER.length) {
            return OUTSIDE;
        }
        if (!isUnder(told.kind[door] + KINDS_AHEAD, as)) {
            return NOT;
        }
        int waysThere = told.opens(door, told.first[door], GO, false) ? 1 : 0;
        int waysBack = told.opens(door, told.second[door], GO, false) ? 1 : 0;
        return waysThere + waysBack;
    }

    // ---- acts

    public int act(int code) {
        if (!isCode(code)) {
            return OUTSIDE;
        }
        int after = acts.after(standing, code);
        if (after == NONE) {
            return NOT;
        }
        standAt(after, minutes + 1);
        return minutes;
    }

    public int guard(int guard, int what) {
        if (guard < 0 || guard >= GUARDS) {
            return UNKNOWN;
        }
        switch (what) {
            case 0:
                return Standing.roomOf(standing, guard);
            case 1:
                return Standing.hasOf(standing, guard);
            case 2:
                return codesOf(guard);
            default:
                return OUTSIDE;
        }
    }

    // ---- foretold

    public int fewest(int i) {
        return i < NONE ? OUTSIDE : foretold.rowFor(ALL_FED).tell(i);
    }

    public int by(int s) {
        if (s < 0 || s > MOST_TURNS) {
            return OUTSIDE;
        }
        boolean asItIs = s == Standing.turns(standing);
        return asItIs ? foretold.rowFor(ALL_FED).length : foretold.lengthByTurns(s);
    }

    public int worth(int door) {
        if (!told.hasDoor(door)) {
            return UNKNOWN;
        }
        int asItIs = foretold.rowFor(ALL_FED).length;
        if (asItIs == NONE) {
            return NOT;
        }
        return told.wicket[door] == 1 ? 0 : asItIs - foretold.lengthByWicket(door);
    }

    public int out(int i) {
        return i < NONE ? OUTSIDE : foretold.rowFor(BOTH_OUT).tell(i);
    }

    public long odds(int p, int e, int part) {
        if (p < 0 || p > MOST_TENTHS || e < 0 || e > MOST_MORE || part < 0 || part > 1) {
            return OUTSIDE;
        }
        Path fewest = foretold.rowFor(ALL_FED);
        if (fewest.length == NONE) {
            return NOT;
        }
        int tries = stickingIn(fewest);
        return tries > MOST_STUCK ? NOT : Odds.tell(tries, p, e, part);
    }

    // ---- rows

    public int row(int code) {
        if (!isCode(code)) {
            return OUTSIDE;
        }
        if (rowLength >= MOST_IN_ROW) {
            return FULL;
        }
        rowCodes[rowLength] = code;
        rowLength++;
        return rowLength;
    }

    public int burn() {
        int had = rowLength;
        rowLength = 0;
        return had;
    }

    public int judge() {
        int now = standing;
        for (int i = 0; i < rowLength; i++) {
            now = acts.after(now, rowCodes[i]);
            if (now == NONE) {
                return i;
            }
        }
        return NONE;
    }

    // ---- nights

    public int heard(int minute, int door) {
        if (!told.hasDoor(door)) {
            return UNKNOWN;
        }
        if (minute < 0 || minute >= MOST_MINUTES) {
            return OUTSIDE;
        }
        return dark.hear(minute, door) ? dark.heardCount : FULL;
    }

    public int forget() {
        return dark.unhear();
    }

    public long night(int m, int what) {
        if (!isNight(m) || what < 0 || what > 1) {
            return OUTSIDE;
        }
        return what == 0 ? dark.ways(m) : dark.roomsBehind(m);
    }

    public int ask(int m) {
        return isNight(m) ? dark.bestMinute(m) : OUTSIDE;
    }

    public int keep(int k) {
        if (k < 0 || k >= KEPT) {
            return UNKNOWN;
        }
        keptStanding[k] = standing;
        keptMinutes[k] = minutes;
        return minutes;
    }

    public int back(int k) {
        if (k < 0 || k >= KEPT) {
            return UNKNOWN;
        }
        if (keptStanding[k] == NONE) {
            return NOT;
        }
        standAt(keptStanding[k], keptMinutes[k]);
        return minutes;
    }

    public int count(int what) {
        switch (what) {
            case 0:
                return told.rooms;
            case 1:
                return told.doors;
            case 2:
                return Standing.hungry(standing);
            case 3:
                return Standing.turns(standing);
            case 4:
                return Standing.keyPlace(standing) < MOST_ROOMS ? Standing.keyPlace(standing) : NONE;
            case 5:
                return minutes;
            case 6:
                return rowLength;
            case 7:
                return dark.heardCount;
            case 8:
                return text.length;
            default:
                return OUTSIDE;
        }
    }

    private void beginAsTold() {
        standAt(Standing.atFirst(told), 0);
        rowLength = 0;
        dark.unhear();
        for (int k = 0; k < KEPT; k++) {
            keptStanding[k] = NONE;
        }
    }

    private void standAt(int newStanding, int newMinutes) {
        standing = newStanding;
        minutes = newMinutes;
        foretold.startFrom(newStanding);
    }

    private int guardsIn(int room) {
        int bits = 0;
        for (int guard = 0; guard < GUARDS; guard++) {
            if (Standing.roomOf(standing, guard) == room) {
                bits |= 1 << guard;
            }
        }
        return bits;
    }

    private int codesOf(int guard) {
        int possible = 0;
        for (int what = 0; what < CODES_END; what++) {
            if (acts.after(standing, guard * CODES_OF_GUARD + what) != NONE) {
                possible++;
            }
        }
        return possible;
    }

    private int stickingIn(Path path) {
        int tries = 0;
        for (int i = 0; i < path.length; i++) {
            int door = path.tell(i) % CODES_OF_GUARD - GO;
            if (told.hasDoor(door) && told.kind[door] == STICKING) {
                tries++;
            }
        }
        return tries;
    }

    private static boolean isCode(int code) {
        return code >= 0 && code < CODES;
    }

    private static boolean isNight(int m) {
        return m >= 1 && m <= MOST_MINUTES;
    }

    private static boolean isUnder(int kind, int as) {
        int now = kind;
        for (int i = 0; i < OVER.length && now >= 0 && now < OVER.length; i++) {
            if (now == as) {
                return true;
            }
            now = OVER[now];
        }
        return false;
    }

    /** What is told of a gaol: its rooms and doors, and how all stands in it at first. */
    private static final class Gaol {
        final int[] first = new int[MOST_DOORS];
        final int[] second = new int[MOST_DOORS];
        final int[] kind = new int[MOST_DOORS];
        final int[] wicket = new int[MOST_DOORS];
        final int[] guardRoom = new int[GUARDS];
        int rooms;
        int doors;
        int kitchen;
        int hungry;
        int turns;
        int keyRoom;

        Gaol() {
            begin(LEAST_ROOMS);
        }

        void begin(int newRooms) {
            rooms = newRooms;
            doors = 0;
            kitchen = 0;
            hungry = 0;
            turns = 0;
            keyRoom = 0;
            guardRoom[0] = 0;
            guardRoom[1] = 0;
        }

        void copyFrom(Gaol other) {
            rooms = other.rooms;
            doors = other.doors;
            kitchen = other.kitchen;
            hungry = other.hungry;
            turns = other.turns;
            keyRoom = other.keyRoom;
            System.arraycopy(other.first, 0, first, 0, MOST_DOORS);
            System.arraycopy(other.second, 0, second, 0, MOST_DOORS);
            System.arraycopy(other.kind, 0, kind, 0, MOST_DOORS);
            System.arraycopy(other.wicket, 0, wicket, 0, MOST_DOORS);
            System.arraycopy(other.guardRoom, 0, guardRoom, 0, GUARDS);
        }

        void addDoor(int newKind, int from, int to, int newWicket) {
            if (doors >= MOST_DOORS) {
                return;
            }
            first[doors] = from;
            second[doors] = to;
            kind[doors] = newKind;
            wicket[doors] = newWicket;
            doors++;
        }

        boolean hasRoom(int room) {
            return room >= 0 && room < rooms;
        }

        boolean hasDoor(int door) {
            return door >= 0 && door < doors;
        }

        boolean isHungry(int room) {
            return (hungry >> room & 1) == 1;
        }

        /** The room on the other side of a door; NONE: the door is not of this room. */
        int behind(int door, int room) {
            if (!hasDoor(door)) {
                return NONE;
            }
            if (first[door] == room) {
                return second[door];
            }
            return second[door] == room ? first[door] : NONE;
        }

        /** Whether a door of a room opens from there by GO, BOTH or SOAP. */
        boolean opens(int door, int from, int by, boolean loafGoes) {
            if (!hasDoor(door)) {
                return false;
            }
            switch (kind[door]) {
                case PLAIN:
                    return true;
                case ONEWAY:
                    return first[door] == from;
                case TWO:
                    return by == BOTH;
                case WEIGHED:
                    return !loafGoes;
                case STICKING:
                    return by == GO;
                default:
                    return false;
            }
        }

        /** The room into which the key can go through a door, by whatever guards; NONE: none. */
        int keyGoes(int door, int from) {
            int to = behind(door, from);
            boolean can = to != NONE && (opens(door, from, GO, false) || opens(door, from, BOTH, false));
            return can ? to : NONE;
        }
    }

    /** The bytes of a text, and how they are read token by token, up to the first fault. */
    private static final class Reader {
        private static final int WORDS = 12, GAOL_WORD = 6, KITCHEN_WORD = 7, HUNGRY_WORD = 8;
        private static final int SOAP_WORD = 9, KEY_WORD = 10, GUARD_WORD = 11, MOST_DIGITS = 2;

        private final int[] signs = new int[MOST_BYTES];
        int length;
        int lines;
        private int start;
        private int end;

        boolean add(long bytes, int n) {
            if (n > MOST_BYTES - length) {
                return false;
            }
            for (int i = 0; i < n; i++) {
                signs[length + i] = (int) (bytes >> 8 * i & 255);
            }
            length += n;
            return true;
        }

        int empty() {
            int had = length;
            length = 0;
            return had;
        }

        /** Does the lines to a gaol, which is of no use behind a fault: the place of the first fault, or NONE. */
        int readInto(Gaol gaol) {
            end = 0;
            for (int line = 1; line <= MOST_LINES; line++) {
                lines = line;
                nextToken();
                if (!readLine(gaol, wordHere())) {
                    return start;
                }
                nextToken();
                if (start == length) {
                    return NONE;
                }
                if (signs[start] != ';') {
                    return start;
                }
            }
            return start;
        }

        private boolean readLine(Gaol gaol, int word) {
            switch (word) {
                case NONE:
                    return false;
                case GAOL_WORD:
                    return readGaol(gaol);
                case KITCHEN_WORD:
                    gaol.kitchen = nextNumber(0, gaol.rooms - 1);
                    return gaol.kitchen != NONE;
                case HUNGRY_WORD:
                    return readHungry(gaol);
                case SOAP_WORD:
                    gaol.turns = nextNumber(0, MOST_TURNS);
                    return gaol.turns != NONE;
                case KEY_WORD:
                    gaol.keyRoom = nextNumber(0, gaol.rooms - 1);
                    return gaol.keyRoom != NONE;
                case GUARD_WORD:
                    return readGuard(gaol);
                default:
                    return readDoor(gaol, word);
            }
        }

        private boolean readGaol(Gaol gaol) {
            int rooms = nextNumber(LEAST_ROOMS, MOST_ROOMS);
            if (rooms == NONE) {
                return false;
            }
            gaol.begin(rooms);
            return true;
        }

        private boolean readHungry(Gaol gaol) {
            int room = nextNumber(0, gaol.rooms - 1);
            if (room == NONE || gaol.isHungry(room) || Integer.bitCount(gaol.hungry) >= MOST_HUNGRY) {
                return false;
            }
            gaol.hungry |= 1 << room;
            return true;
        }

        private boolean readGuard(Gaol gaol) {
            int guard = nextNumber(0, GUARDS - 1);
            if (guard == NONE) {
                return false;
            }
            gaol.guardRoom[guard] = nextNumber(0, gaol.rooms - 1);
            return gaol.guardRoom[guard] != NONE;
        }

        private boolean readDoor(Gaol gaol, int kind) {
            if (gaol.doors >= MOST_DOORS) {
                return false;
            }
            int from = nextNumber(0, gaol.rooms - 1);
            if (from == NONE) {
                return false;
            }
            int to = nextNumber(0, gaol.rooms - 1);
            if (to == NONE || to == from) {
                return false;
            }
            int wicket = nextNumber(0, 1);
            if (wicket == NONE) {
                return false;
            }
            gaol.addDoor(kind, from, to, wicket);
            return true;
        }

        /** Goes to the next token; behind the last one it is empty, at the text's length. */
        private void nextToken() {
            start = end;
            while (start < length && signs[start] == ' ') {
                start++;
            }
            end = start;
            while (end < length && isLetter(signs[end])) {
                end++;
            }
            while (end < length && isDigit(signs[end]) && isDigit(signs[start])) {
                end++;
            }
            if (end == start && end < length) {
                end++;
            }
        }

        /** Goes to the next token, a number; NONE: it is none, or not within the bounds. */
        private int nextNumber(int least, int most) {
            nextToken();
            if (end == start || end - start > MOST_DIGITS) {
                return NONE;
            }
            int number = 0;
            for (int i = start; i < end; i++) {
                if (!isDigit(signs[i])) {
                    return NONE;
                }
                number = number * 10 + signs[i] - '0';
            }
            return number >= least && number <= most ? number : NONE;
        }

        private int wordHere() {
            for (int word = 0; word < WORDS; word++) {
                if (isHere(wordOf(word))) {
                    return word;
                }
            }
            return NONE;
        }

        private boolean isHere(String word) {
            if (word.length() != end - start) {
                return false;
            }
            for (int i = 0; i < word.length(); i++) {
                if (word.charAt(i) != signs[start + i]) {
                    return false;
                }
            }
            return true;
        }

        private static String wordOf(int word) {
            switch (word) {
                case PLAIN:
                    return "plain";
                case ONEWAY:
                    return "oneway";
                case TWO:
                    return "two";
                case WEIGHED:
                    return "weighed";
                case STICKING:
                    return "sticking";
                case FALSE:
                    return "false";
                case GAOL_WORD:
                    return "gaol";
                case KITCHEN_WORD:
                    return "kitchen";
                case HUNGRY_WORD:
                    return "hungry";
                case SOAP_WORD:
                    return "soap";
                case KEY_WORD:
                    return "key";
                default:
                    return "guard";
            }
        }

        private static boolean isLetter(int sign) {
            return sign >= 'a' && sign <= 'z';
        }

        private static boolean isDigit(int sign) {
            return sign >= '0' && sign <= '9';
        }
    }

    /**
     * All that acts change, in one int, so that a search can hold very many of them: the guards' rooms
     * (3 bits each), their bread (a bit each), the key's place (3 bits: a room, or from 6 on a guard),
     * the hungry rooms (6 bits) and the turns of soap (2 bits).
     */
    private static final class Standing {
        static final int BITS = 19, HELD = 6;
        private static final int LOAVES = 6, KEY_AT = 8, HUNGRY_AT = 11, TURNS_AT = 17;

        static int atFirst(Gaol gaol) {
            return gaol.guardRoom[0] | gaol.guardRoom[1] << 3 | gaol.keyRoom << KEY_AT
                | gaol.hungry << HUNGRY_AT | gaol.turns << TURNS_AT;
        }

        static int roomOf(int standing, int guard) {
            return standing >> 3 * guard & 7;
        }

        static int hasOf(int standing, int guard) {
            return (standing >> KEY_AT & 7) == HELD + guard ? KEY : standing >> LOAVES + guard & 1;
        }

        static int keyPlace(int standing) {
            return standing >> KEY_AT & 7;
        }

        static int hungry(int standing) {
            return standing >> HUNGRY_AT & 63;
        }

        static boolean hungryIn(int standing, int room) {
            return (standing >> HUNGRY_AT + room & 1) == 1;
        }

        static int turns(int standing) {
            return standing >> TURNS_AT & 3;
        }

        static int withRoom(int standing, int guard, int room) {
            return standing & ~(7 << 3 * guard) | room << 3 * guard;
        }

        static int withLoaf(int standing, int guard) {
            return standing | 1 << LOAVES + guard;
        }

        static int withoutLoaf(int standing, int guard) {
            return standing & ~(1 << LOAVES + guard);
        }

        static int withKeyAt(int standing, int place) {
            return standing & ~(7 << KEY_AT) | place << KEY_AT;
        }

        static int withFed(int standing, int room) {
            return standing & ~(1 << HUNGRY_AT + room);
        }

        static int withTurns(int standing, int turns) {
            return standing & ~(3 << TURNS_AT) | turns << TURNS_AT;
        }
    }

    /** What each act makes of a standing. */
    private static final class Acts {
        private final Gaol gaol;

        Acts(Gaol itsGaol) {
            gaol = itsGaol;
        }

        /** The standing behind an act; NONE: it can not be. */
        int after(int standing, int code) {
            int who = code / CODES_OF_GUARD;
            int what = code % CODES_OF_GUARD;
            int room = Standing.roomOf(standing, who);
            int has = Standing.hasOf(standing, who);
            switch (what) {
                case TAKE:
                    boolean hangs = has == NOTHING && Standing.keyPlace(standing) == room;
                    return hangs ? Standing.withKeyAt(standing, Standing.HELD + who) : NONE;
                case HANG:
                    return has == KEY ? Standing.withKeyAt(standing, room) : NONE;
                case BREAD:
                    boolean baked = has == NOTHING && room == gaol.kitchen;
                    return baked ? Standing.withLoaf(standing, who) : NONE;
                case FEED:
                    boolean eats = has == LOAF && Standing.hungryIn(standing, room);
                    return eats ? Standing.withFed(Standing.withoutLoaf(standing, who), room) : NONE;
                default:
                    return what < CODES_END ? afterAtDoor(standing, who, what, has) : NONE;
            }
        }

        private int afterAtDoor(int standing, int who, int what, int has) {
            int door = (what - HAND) % MOST_DOORS;
            int by = what - door;
            int room = Standing.roomOf(standing, who);
            int behind = gaol.behind(door, room);
            if (behind == NONE) {
                return NONE;
            }
            if (by == HAND) {
                boolean reaches = has == LOAF && gaol.wicket[door] == 1;
                return reaches ? afterHand(standing, who, behind) : NONE;
            }
            int other = 1 - who;
            boolean loafGoes = by == BOTH && Standing.hasOf(standing, other) == LOAF;
            if (has != (by == SOAP ? NOTHING : KEY) || !gaol.opens(door, room, by, loafGoes)) {
                return NONE;
            }
            if (by == SOAP) {
                return afterSoap(standing, who, behind);
            }
            if (by == GO) {
                return afterGo(standing, who, behind);
            }
            boolean together = Standing.roomOf(standing, other) == room;
            return together ? afterGo(Standing.withRoom(standing, other, behind), who, behind) : NONE;
        }

        private static int afterHand(int standing, int who, int behind) {
            int other = 1 - who;
            int given = Standing.withoutLoaf(standing, who);
            if (Standing.hungryIn(standing, behind)) {
                return Standing.withFed(given, behind);
            }
            boolean taken = Standing.roomOf(standing, other) == behind && Standing.hasOf(standing, other) == NOTHING;
            return taken ? Standing.withLoaf(given, other) : given;
        }

        private static int afterGo(int standing, int who, int behind) {
            return Standing.withKeyAt(Standing.withRoom(standing, who, behind), behind);
        }

        private static int afterSoap(int standing, int who, int behind) {
            int turns = Standing.turns(standing);
            return turns > 0 ? Standing.withTurns(Standing.withRoom(standing, who, behind), turns - 1) : NONE;
        }
    }

    /** A row of acts that was sought; its length is NONE if there is no such row. */
    private static final class Path {
        final int length;
        private final int[] codes;

        Path(int newLength, int[] newCodes) {
            length = newLength;
            codes = newCodes;
        }

        /** The length for NONE, else the i-th code, NONE behind the last. */
        int tell(int i) {
            if (i == NONE) {
                return length;
            }
            return i >= 0 && i < length && i < codes.length ? codes[i] : NONE;
        }
    }

    /**
     * Seeks the first of the fewest acts. Standings are reached level by level, each level in the order of
     * the rows of acts that lead there, so that the first one that fits is behind the first row of acts.
     */
    private static final class Search {
        /** Rooms of the guards, times places of key and bread, times who of four is hungry, times turns. */
        private static final int MOST_STANDINGS = 36 * 28 * 16 * 4;
        private static final int AHEAD_AT = Standing.BITS, AHEAD_BITS = 17, CODE_AT = AHEAD_AT + AHEAD_BITS;

        private final Gaol gaol;
        private final Acts acts;
        /** The standings reached: of each its bits, behind them the place of the one ahead, then the code. */
        private final long[] reached = new long[MOST_STANDINGS];
        private final long[] seen = new long[1 << Standing.BITS - 6];
        private final int[] codes = new int[CODES];
        private final int[][] doorsOf = new int[MOST_ROOMS][MOST_DOORS];
        private final int[] doorCount = new int[MOST_ROOMS];
        private int reachedCount;
        private int codeCount;

        Search(Gaol itsGaol, Acts itsActs) {
            gaol = itsGaol;
            acts = itsActs;
        }

        Path seek(int from, int goal) {
            sortDoors();
            reachedCount = 0;
            reach(from, 0, 0);
            boolean found = fits(from, goal);
            for (int place = 0; place < reachedCount && place < MOST_STANDINGS && !found; place++) {
                found = spread(place, goal);
            }
            Path path = found ? pathToLast() : new Path(NONE, new int[0]);
            wipe();
            return path;
        }

        private void sortDoors() {
            for (int room = 0; room < MOST_ROOMS; room++) {
                doorCount[room] = 0;
                for (int door = 0; door < gaol.doors && door < MOST_DOORS; door++) {
                    if (gaol.behind(door, room) != NONE) {
                        doorsOf[room][doorCount[room]] = door;
                        doorCount[room]++;
                    }
                }
            }
        }

        private static boolean fits(int standing, int goal) {
            if (goal == ALL_FED) {
                return Standing.hungry(standing) == 0;
            }
            return Standing.roomOf(standing, 0) == 0 && Standing.roomOf(standing, 1) == 0;
        }

        /** Reaches all that is one act behind a place; true: the last one reached fits. */
        private boolean spread(int place, int goal) {
            int standing = standingAt(place);
            codeCount = 0;
            listCodes(standing, 0);
            listCodes(standing, 1);
            for (int i = 0; i < codeCount; i++) {
                int after = acts.after(standing, codes[i]);
                if (after != NONE && reach(after, place, codes[i]) && fits(after, goal)) {
                    return true;
                }
            }
            return false;
        }

        /** Lists, in their order, the codes that are worth a trial by what a guard has and where it is. */
        private void listCodes(int standing, int guard) {
            int base = guard * CODES_OF_GUARD;
            int room = Standing.roomOf(standing, guard);
            switch (Standing.hasOf(standing, guard)) {
                case NOTHING:
                    listCode(base + TAKE);
                    listCode(base + BREAD);
                    if (Standing.turns(standing) > 0) {
                        listDoors(base + SOAP, room);
                    }
                    break;
                case LOAF:
                    listCode(base + FEED);
                    listDoors(base + HAND, room);
                    break;
                default:
                    listCode(base + HANG);
                    listDoors(base + GO, room);
                    listDoors(base + BOTH, room);
                    break;
            }
        }

        private void listDoors(int code, int room) {
            if (room < 0 || room >= MOST_ROOMS) {
                return;
            }
            for (int i = 0; i < doorCount[room]; i++) {
                listCode(code + doorsOf[room][i]);
            }
        }

        private void listCode(int code) {
            if (codeCount < CODES) {
                codes[codeCount] = code;
                codeCount++;
            }
        }

        /** Notes a standing, unless it was reached before. */
        private boolean reach(int standing, int ahead, int code) {
            int at = standing >> 6 & seen.length - 1;
            long bit = 1L << (standing & 63);
            if ((seen[at] & bit) != 0 || reachedCount >= MOST_STANDINGS) {
                return false;
            }
            seen[at] |= bit;
            reached[reachedCount] = standing | (long) ahead << AHEAD_AT | (long) code << CODE_AT;
            reachedCount++;
            return true;
        }

        private int standingAt(int place) {
            return (int) (reached[place] & (1 << Standing.BITS) - 1);
        }

        private int aheadOf(int place) {
            return (int) (reached[place] >> AHEAD_AT & (1 << AHEAD_BITS) - 1);
        }

        private Path pathToLast() {
            int last = reachedCount - 1;
            int length = 0;
            for (int place = last; place > 0 && length < MOST_STANDINGS; place = aheadOf(place)) {
                length++;
            }
            int[] found = new int[length];
            int place = last;
            for (int i = length - 1; i >= 0; i--) {
                found[i] = (int) (reached[place] >> CODE_AT);
                place = aheadOf(place);
            }
            return new Path(length, found);
        }

        private void wipe() {
            for (int place = 0; place < reachedCount; place++) {
                seen[standingAt(place) >> 6] = 0;
            }
        }
    }

    /** What was foretold from a standing, so that nothing is sought twice before something changes. */
    private static final class Foretold {
        private static final int NOT_SOUGHT = -2;

        private final Gaol gaol;
        private final Search search;
        private final int[] byTurns = new int[MOST_TURNS + 1];
        private final int[] byWicket = new int[MOST_DOORS];
        private Path allFed;
        private Path bothOut;
        private int standing;

        Foretold(Gaol itsGaol, Search itsSearch) {
            gaol = itsGaol;
            search = itsSearch;
        }

        void startFrom(int newStanding) {
            standing = newStanding;
            allFed = null;
            bothOut = null;
            Arrays.fill(byTurns, NOT_SOUGHT);
            Arrays.fill(byWicket, NOT_SOUGHT);
        }

        Path rowFor(int goal) {
            if (goal == ALL_FED) {
                if (allFed == null) {
                    allFed = search.seek(standing, ALL_FED);
                }
                return allFed;
            }
            if (bothOut == null) {
                bothOut = search.seek(standing, BOTH_OUT);
            }
            return bothOut;
        }

        int lengthByTurns(int turns) {
            if (turns < 0 || turns > MOST_TURNS) {
                return NONE;
            }
            if (byTurns[turns] == NOT_SOUGHT) {
                byTurns[turns] = search.seek(Standing.withTurns(standing, turns), ALL_FED).length;
            }
            return byTurns[turns];
        }

        int lengthByWicket(int door) {
            if (!gaol.hasDoor(door)) {
                return NONE;
            }
            if (byWicket[door] == NOT_SOUGHT) {
                int wicket = gaol.wicket[door];
                gaol.wicket[door] = 1;
                byWicket[door] = search.seek(standing, ALL_FED).length;
                gaol.wicket[door] = wicket;
            }
            return byWicket[door];
        }
    }

    /** How likely it is that doors which stick take some minutes more at most. */
    private static final class Odds {
        /** The odds' part above (0) or below (1), in lowest terms. */
        static long tell(int tries, int tenths, int more, int part) {
            long below = power(10, tries + more);
            long above = waysInTime(tries, tenths, more);
            long common = commonDivisor(below, above);
            if (common == 0) {
                return 0;
            }
            return part == 0 ? above / common : below / common;
        }

        /** The odds in parts of ten to the power of tries and more: each extra minute falls to one of the tries. */
        private static long waysInTime(int tries, int tenths, int more) {
            long sum = 0;
            long spreads = 1;
            for (int extra = 0; extra <= more; extra++) {
                if (extra > 0) {
                    spreads = spreads * (tries + extra - 1) / extra;
                }
                sum += spreads * power(tenths, extra) * power(10 - tenths, tries) * power(10, more - extra);
            }
            return sum;
        }

        private static long power(int base, int times) {
            long product = 1;
            for (int i = 0; i < times; i++) {
                product *= base;
            }
            return product;
        }

        private static long commonDivisor(long one, long two) {
            long big = one;
            long small = two;
            for (int i = 0; i < 128 && small != 0; i++) {
                long rest = big % small;
                big = small;
                small = rest;
            }
            return big;
        }
    }

    /** What was heard in a night, and the ways in which the key may have gone. */
    private static final class Night {
        private final Gaol gaol;
        private final int[] heardMinute = new int[MOST_HEARD];
        private final int[] heardDoor = new int[MOST_HEARD];
        /** Ways to each room in so many minutes, and on from each room behind so many minutes (not 0) to the end. */
        private final long[][] waysTo = new long[MOST_MINUTES + 1][MOST_ROOMS];
        private final long[][] waysOn = new long[MOST_MINUTES + 1][MOST_ROOMS];
        int heardCount;

        Night(Gaol itsGaol) {
            gaol = itsGaol;
        }

        boolean hear(int minute, int door) {
            if (heardCount >= MOST_HEARD) {
                return false;
            }
            heardMinute[heardCount] = minute;
            heardDoor[heardCount] = door;
            heardCount++;
            return true;
        }

        int unhear() {
            int had = heardCount;
            heardCount = 0;
            return had;
        }

        long ways(int m) {
            countWaysTo(m);
            long sum = 0;
            for (int room = 0; room < gaol.rooms; room++) {
                sum += waysTo[m][room];
            }
            return sum;
        }

        int roomsBehind(int m) {
            countWaysTo(m);
            int bits = 0;
            for (int room = 0; room < gaol.rooms; room++) {
                if (waysTo[m][room] > 0) {
                    bits |= 1 << room;
                }
            }
            return bits;
        }

        /** The first minute behind which the likeliest room has the fewest ways; NONE: there are no ways. */
        int bestMinute(int m) {
            countWaysTo(m);
            countWaysOn(m);
            int best = NONE;
            long fewest = 0;
            for (int minute = 0; minute < m; minute++) {
                long most = mostWaysBehind(minute + 1);
                if (most > 0 && (best == NONE || most < fewest)) {
                    best = minute;
                    fewest = most;
                }
            }
            return best;
        }

        private long mostWaysBehind(int gone) {
            long most = 0;
            for (int room = 0; room < gaol.rooms; room++) {
                most = Math.max(most, waysTo[gone][room] * waysOn[gone][room]);
            }
            return most;
        }

        private void countWaysTo(int m) {
            Arrays.fill(waysTo[0], 0);
            waysTo[0][gaol.keyRoom] = 1;
            for (int minute = 0; minute < m; minute++) {
                Arrays.fill(waysTo[minute + 1], 0);
                for (int from = 0; from < gaol.rooms; from++) {
                    for (int door = NONE; door < gaol.doors; door++) {
                        int to = roomAfter(minute, door, from);
                        if (to != NONE) {
                            waysTo[minute + 1][to] += waysTo[minute][from];
                        }
                    }
                }
            }
        }

        private void countWaysOn(int m) {
            Arrays.fill(waysOn[m], 1);
            for (int minute = m - 1; minute > 0; minute--) {
                Arrays.fill(waysOn[minute], 0);
                for (int from = 0; from < gaol.rooms; from++) {
                    for (int door = NONE; door < gaol.doors; door++) {
                        int to = roomAfter(minute, door, from);
                        if (to != NONE) {
                            waysOn[minute][from] += waysOn[minute + 1][to];
                        }
                    }
                }
            }
        }

        /** Where the key is behind a minute in which it takes a door, or stays (NONE); NONE: it can't have. */
        private int roomAfter(int minute, int door, int from) {
            for (int i = 0; i < heardCount; i++) {
                if (heardMinute[i] == minute && heardDoor[i] != door) {
                    return NONE;
                }
            }
            return door == NONE ? from : gaol.keyGoes(door, from);
        }
    }
}
