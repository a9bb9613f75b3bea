/** A board game in which what is taken lies where it fell. DOC.md promises what each call answers. */
public final class StayWhereFell {
    public static final int UNKNOWN = -1, OUTSIDE = -2, STATE = -3, FULL = -4, NONE = -9;

    private static final int TEXT_MOST = 24, CELLS_MOST = 16, SIDE_MOST = 4;
    private static final int ROW_MOST = 16, SLOTS = 2, BYTES_MOST = 8;
    private static final int JUDGED_MOST = 2, AHEAD_MOST = 4, WAYS_MOST = 3, PLAY_MOST = 40;

    private static final int WHITE = 0, BLACK = 1;
    private static final String SIGNS = ".#KRBNPkrbnp";
    private static final int EMPTY = 0, DEAD = 1, FIRST_WHITE = 2, FIRST_BLACK = 7;
    private static final int KING = 0, ROOK = 1, BISHOP = 2, KNIGHT = 3, PAWN = 4, NO_KIND = -1;

    // A PLY is 100 times the CELL from which, and that to which: as keyAt tells it.
    private static final int PLY = 100, TOLD = 10_000, PASSED = NONE;
    // m men have at most m * (16 - m) CELLS to go to or to take at.
    private static final int PLIES_MOST = 64;
    // From CELL, to CELL, and one that is gone: as only one falls by a PLY, only one is gone by one.
    private static final int CHANGED_MOST = 3;

    private static final long TIMES = 6364136223846793005L, AND = 1442695040888963407L;
    private static final int UPPER = 33;

    private final Text text = new Text();
    private final Field field = new Field();
    private final Place ahead = new Place(new Place(new Place(null)));
    private final Place now = new Place(ahead);
    private final Place kept = new Place(null);
    private final Past past = new Past();
    private final Shelf slots = new Shelf(SLOTS);
    private long chance = 0;

    public StayWhereFell() {
        field.shape(1, 1, 0);
    }

    // ---- the board

    public int write(int n, long v) {
        if (n < 1 || n > BYTES_MOST) {
            return OUTSIDE;
        }
        if (text.length + n > TEXT_MOST) {
            return FULL;
        }
        text.add(n, v);
        return text.length;
    }

    public int wipe() {
        int length = text.length;
        text.length = 0;
        return length;
    }

    public int fault() {
        return text.firstFault();
    }

    public int board() {
        if (text.firstFault() != NONE) {
            return STATE;
        }
        field.shape(text.width(), text.height(), text.last());
        now.clear();
        for (int cell = 0; cell < field.cells; cell++) {
            now.put(cell, text.signOf(cell));
        }
        now.on = text.side();
        past.clear();
        slots.clear();
        return field.cells;
    }

    public int cell(int cell) {
        return isCell(cell) ? letter(now.sign(cell)) : UNKNOWN;
    }

    public int gone(int cell) {
        if (!isCell(cell)) {
            return UNKNOWN;
        }
        return has(now.dead, cell) ? now.lying(cell) : STATE;
    }

    // ---- plies

    public int aims(int cell) {
        return isCell(cell) ? field.aimed(now.sign(cell), cell, now.full()) : UNKNOWN;
    }

    public int can(int cell) {
        return isCell(cell) ? now.reach(field, cell) : UNKNOWN;
    }

    public int plies() {
        return now.list(field);
    }

    public int move(int from, int to) {
        if (!isCell(from) || !isCell(to)) {
            return UNKNOWN;
        }
        int ply = from * PLY + to;
        if (!may(now, ply)) {
            return STATE;
        }
        int sign = now.sign(to);
        past.add(now);
        now.make(ply, field.last);
        return letter(sign);
    }

    public int pass() {
        if (now.list(field) != 1 || now.ply(0) != PASSED) {
            return STATE;
        }
        past.add(now);
        now.make(PASSED, field.last);
        return now.on;
    }

    public int undo() {
        if (past.size < 1) {
            return STATE;
        }
        past.takeLast(now);
        return past.size;
    }

    public int judge(int n, int row) {
        if (n < 1 || n > JUDGED_MOST) {
            return OUTSIDE;
        }
        if (row < 0 || (n == 1 ? row : row / TOLD) >= TOLD) {
            return OUTSIDE;
        }
        ahead.copy(now);
        for (int i = 0; i < n; i++) {
            int ply = i == n - 1 ? row % TOLD : row / TOLD;
            if (!may(ahead, ply)) {
                return i;
            }
            ahead.make(ply, field.last);
        }
        return NONE;
    }

    // ---- looked ahead

    public int wins(int n) {
        int refused = refusedAhead(n);
        if (refused != NONE) {
            return refused;
        }
        return isForced(field, now, now.on, n) ? 1 : 0;
    }

    public int keys(int n) {
        int refused = refusedAhead(n);
        return refused != NONE ? refused : listKeys(n);
    }

    public int keyAt(int n, int i) {
        int refused = refusedAhead(n);
        if (refused != NONE) {
            return refused;
        }
        return i >= 0 && i < listKeys(n) ? now.ply(i) : NONE;
    }

    public int odds(boolean upper) {
        int all = now.list(field);
        if (all < 1) {
            return STATE;
        }
        int kings = now.kings & now.men(1 - now.on);
        int felling = 0;
        for (int i = 0; i < all; i++) {
            int ply = now.ply(i);
            if (ply != PASSED && has(kings, ply % PLY)) {
                felling++;
            }
        }
        int common = greatestCommon(all, felling);
        if (common < 1) {
            return STATE;
        }
        return (upper ? felling : all) / common;
    }

    // ---- parts

    public int parts() {
        return partsAheadOf(0);
    }

    public int part(int cell) {
        if (!isCell(cell)) {
            return UNKNOWN;
        }
        return has(now.dead, cell) ? NONE : partsAheadOf(1 << cell);
    }

    public int comes(int cell) {
        return isCell(cell) ? field.coming(now.sign(cell), cell, now.dead) : UNKNOWN;
    }

    public int comesAt(int cell, int other) {
        if (!isCell(cell) || !isCell(other)) {
            return UNKNOWN;
        }
        int side = sideOf(now.sign(cell));
        if (side == NONE || !has(now.men(1 - side), other)) {
            return STATE;
        }
        return canComeAt(1 << cell, 1 << other) ? 1 : 0;
    }

    public int shut() {
        return canComeAt(now.white, now.black) || canComeAt(now.black, now.white) ? 0 : 1;
    }

    // ---- ways, plays

    public int ways(int slot, int n) {
        if (!isSlot(slot)) {
            return UNKNOWN;
        }
        if (n < 1 || n > WAYS_MOST) {
            return OUTSIDE;
        }
        if (!slots.holds(slot)) {
            return STATE;
        }
        slots.get(slot, kept);
        // Each PLY changes who is ON, so that by the other parity no row can end so.
        return (now.on + n) % 2 == kept.on ? rowsTo(field, now, kept, n) : 0;
    }

    public long seed(long v) {
        long before = chance;
        chance = v;
        return before;
    }

    public int play(int m) {
        if (m < 1 || m > PLAY_MOST) {
            return OUTSIDE;
        }
        ahead.copy(now);
        for (int i = 0; i < m; i++) {
            int plies = ahead.list(field);
            if (plies < 1) {
                break;
            }
            chance = chance * TIMES + AND;
            ahead.make(ahead.ply((int) ((chance >>> UPPER) % plies)), field.last);
        }
        return ahead.menCount();
    }

    // ---- slots

    public int keep(int slot) {
        if (!isSlot(slot)) {
            return UNKNOWN;
        }
        slots.set(slot, now);
        return now.menCount();
    }

    public int again(int slot) {
        if (!isSlot(slot)) {
            return UNKNOWN;
        }
        if (!slots.holds(slot)) {
            return STATE;
        }
        slots.get(slot, now);
        past.clear();
        return now.menCount();
    }

    public int count(int what) {
        switch (what) {
            case 0: return text.length;
            case 1: return field.width;
            case 2: return field.height;
            case 3: return field.last;
            case 4: return now.on;
            case 5: return now.white;
            case 6: return now.black;
            case 7: return now.dead;
            case 8: return past.size;
            case 9: return now.lost;
            default: return OUTSIDE;
        }
    }

    // ---- what the calls share

    private boolean isCell(int cell) {
        return cell >= 0 && cell < field.cells;
    }

    private static boolean isSlot(int slot) {
        return slot >= 0 && slot < SLOTS;
    }

    private int refusedAhead(int n) {
        if (n < 1 || n > AHEAD_MOST) {
            return OUTSIDE;
        }
        return now.lost != NONE ? STATE : NONE;
    }

    /** Whether a told move may be; it may name any two figures, of CELLS that there are not, too. */
    private boolean may(Place place, int ply) {
        int from = ply / PLY;
        int to = ply % PLY;
        return isCell(from) && isCell(to) && place.lost == NONE
            && has(place.men(place.on), from) && has(place.reach(field, from), to);
    }

    /** Leaves THE KEYS alone in the row of PLIES that there are now: how many. */
    private int listKeys(int n) {
        int all = now.list(field);
        int keys = 0;
        for (int i = 0; i < all; i++) {
            int ply = now.ply(i);
            ahead.follow(now, ply, field.last);
            if (isForced(field, ahead, now.on, n - 1)) {
                now.setPly(keys, ply);
                keys++;
            }
        }
        return keys;
    }

    /** The PARTS with least CELLS ahead of that of the one that holds a wanted CELL; all, if none is wanted. */
    private int partsAheadOf(int wanted) {
        int open = field.all() & ~now.dead;
        int seen = 0;
        int parts = 0;
        for (int cell = 0; cell < field.cells; cell++) {
            if (has(open & ~seen, cell)) {
                int hanging = field.hanging(cell, open);
                if ((hanging & wanted) != 0) {
                    return parts;
                }
                seen |= hanging;
                parts++;
            }
        }
        return parts;
    }

    /** Whether any of these men CAN COME AT any of those; both are told by their CELLS. */
    private boolean canComeAt(int these, int those) {
        int threatened = 0;
        int coming = 0;
        for (int cell = 0; cell < field.cells; cell++) {
            if (has(these, cell)) {
                threatened |= field.threatened(now.sign(cell), cell, now.dead);
            }
            if (has(those, cell)) {
                coming |= field.coming(now.sign(cell), cell, now.dead);
            }
        }
        return (threatened & coming) != 0;
    }

    /** Whether a side can have the last K of the other FALL within n PLIES, whoever is ON. */
    private static boolean isForced(Field field, Place place, int side, int n) {
        if (place.lost != NONE) {
            return place.lost != side;
        }
        boolean mine = place.on == side;
        // Nobody fells a K of its own, so that a PLY of the other side is of no use as the last one.
        if (mine && n < 3) {
            return n > 0 && place.canFellLast(field);
        }
        Place next = place.under;
        if (n < 2 || next == null) {
            return false;
        }
        int all = place.list(field);
        for (int i = 0; i < all; i++) {
            next.follow(place, place.ply(i), field.last);
            if (isForced(field, next, side, n - 1) == mine) {
                return mine;
            }
        }
        return !mine;
    }

    /** In how many rows of n PLIES a place comes to be as another. */
    private static int rowsTo(Field field, Place place, Place wanted, int n) {
        if (place.differing(wanted) > CHANGED_MOST * n) {
            return 0;
        }
        if (n < 1) {
            return place.isAs(wanted) ? 1 : 0;
        }
        Place next = place.under;
        if (next == null) {
            return 0;
        }
        int rows = 0;
        int all = place.list(field);
        for (int i = 0; i < all; i++) {
            next.follow(place, place.ply(i), field.last);
            rows += rowsTo(field, next, wanted, n - 1);
        }
        return rows;
    }

    private static int greatestCommon(int a, int b) {
        int more = a;
        int less = b;
        // Each two steps halve the numbers, so 64 are enough for any two ints.
        for (int i = 0; i < 64 && less > 0; i++) {
            int left = more % less;
            more = less;
            less = left;
        }
        return more;
    }

    private static boolean has(int cells, int cell) {
        return (cells >> cell & 1) != 0;
    }

    private static int lowest(int cells) {
        return Integer.bitCount((cells & -cells) - 1);
    }

    private static int at(int[] row, int i) {
        return i >= 0 && i < row.length ? row[i] : 0;
    }

    private static void lay(int[] row, int i, int number) {
        if (i >= 0 && i < row.length) {
            row[i] = number;
        }
    }

    private static int letter(int sign) {
        return sign >= 0 && sign < SIGNS.length() ? SIGNS.charAt(sign) : 0;
    }

    private static int sideOf(int sign) {
        if (sign < FIRST_WHITE) {
            return NONE;
        }
        return sign < FIRST_BLACK ? WHITE : BLACK;
    }

    private static int kindOf(int sign) {
        if (sign < FIRST_WHITE) {
            return NO_KIND;
        }
        return sign < FIRST_BLACK ? sign - FIRST_WHITE : sign - FIRST_BLACK;
    }

    /** THE TEXT, and how much of it can be a BOARD. */
    private static final class Text {
        private static final int HEAD = 5;

        private final byte[] bytes = new byte[TEXT_MOST];
        private int length = 0;

        void add(int n, long v) {
            for (int i = n - 1; i >= 0; i--) {
                if (length >= 0 && length < bytes.length) {
                    bytes[length] = (byte) (v >>> 8 * i);
                    length++;
                }
            }
        }

        int firstFault() {
            for (int i = 0; i < length; i++) {
                if (!fits(i)) {
                    return i;
                }
            }
            return length < HEAD || length < end() ? length : NONE;
        }

        int width() {
            return figure(1);
        }

        int height() {
            return figure(2);
        }

        int last() {
            return figure(3);
        }

        int side() {
            return byteAt(4) == 'b' ? BLACK : WHITE;
        }

        /** The place in SIGNS of what is on a CELL. */
        int signOf(int cell) {
            return SIGNS.indexOf((char) byteAt(HEAD + cell));
        }

        private int byteAt(int i) {
            return i >= 0 && i < bytes.length ? bytes[i] & 255 : 0;
        }

        private int figure(int i) {
            return byteAt(i) - '0';
        }

        private int end() {
            return HEAD + width() * height();
        }

        /** Whether a byte can be where it is; it is asked only if all ahead of it can. */
        private boolean fits(int i) {
            int sign = byteAt(i);
            switch (i) {
                case 0: return sign == 'G';
                case 1:
                case 2: return sign >= '1' && sign <= '0' + SIDE_MOST;
                case 3: return sign >= '0' && sign <= '9';
                case 4: return sign == 'w' || sign == 'b';
                default: return i < end() && signOf(i - HEAD) >= 0;
            }
        }
    }

    /** The shape of THE BOARD, and where men AIM, GO and come on it; sets of CELLS are bits. */
    private static final class Field {
        private static final int NOWHERE = -1, WAYS = 8;
        // Clockwise from up: the even ways are those of R, the odd ones those of B.
        private static final int[] ACROSS = {0, 1, 1, 1, 0, -1, -1, -1};
        private static final int[] DOWN = {-1, -1, 0, 1, 1, 1, 0, -1};
        private static final int[] LEAP_ACROSS = {1, 2, 2, 1, -1, -2, -2, -1};
        private static final int[] LEAP_DOWN = {-2, -1, 1, 2, 2, 1, -1, -2};

        private final int[] beside = new int[WAYS * CELLS_MOST];
        private final int[] around = new int[CELLS_MOST];
        private final int[] leaps = new int[CELLS_MOST];
        // Those of P are told for WHITE, then for BLACK.
        private final int[] slants = new int[2 * CELLS_MOST];
        private final int[] steps = new int[2 * CELLS_MOST];
        private int width = 1, height = 1, last = 0, cells = 1;

        void shape(int columns, int rows, int plies) {
            width = columns;
            height = rows;
            last = plies;
            cells = columns * rows;
            for (int row = 0; row < rows; row++) {
                for (int column = 0; column < columns; column++) {
                    surround(row * columns + column, column, row);
                    lookAhead(WHITE * CELLS_MOST + row * columns + column, column, row - 1);
                    lookAhead(BLACK * CELLS_MOST + row * columns + column, column, row + 1);
                }
            }
        }

        int all() {
            return (1 << cells) - 1;
        }

        /** CELLS at which a MAN AIMS; full are those that are not empty. */
        int aimed(int sign, int cell, int full) {
            switch (kindOf(sign)) {
                case KING: return at(around, cell);
                case ROOK: return lines(cell, 0, full);
                case BISHOP: return lines(cell, 1, full);
                case KNIGHT: return at(leaps, cell);
                case PAWN: return at(slants, sideOf(sign) * CELLS_MOST + cell);
                default: return 0;
            }
        }

        /** CELLS to which a MAN can GO if they are empty, by those at which it AIMS. */
        int going(int sign, int cell, int aimed) {
            return kindOf(sign) == PAWN ? at(steps, sideOf(sign) * CELLS_MOST + cell) : aimed;
        }

        /** CELLS to which a MAN can come past the DEAD, if nobody else is there; 0: no MAN. */
        int coming(int sign, int cell, int dead) {
            if (kindOf(sign) == NO_KIND) {
                return 0;
            }
            int come = 1 << cell;
            int done = 0;
            for (int i = 0; i < CELLS_MOST && come != done; i++) {
                int here = lowest(come & ~done);
                done |= 1 << here;
                come |= going(sign, here, aimed(sign, here, dead)) & ~dead;
            }
            return come;
        }

        /** CELLS at which a MAN would AIM from where it can come. */
        int threatened(int sign, int cell, int dead) {
            int come = coming(sign, cell, dead);
            int threatened = 0;
            for (int here = 0; here < cells; here++) {
                if (has(come, here)) {
                    threatened |= aimed(sign, here, dead);
                }
            }
            return threatened;
        }

        /** Open CELLS that hang together with one. */
        int hanging(int cell, int open) {
            int hang = 1 << cell;
            int done = 0;
            for (int i = 0; i < CELLS_MOST && hang != done; i++) {
                int here = lowest(hang & ~done);
                done |= 1 << here;
                hang |= at(around, here) & open;
            }
            return hang;
        }

        private void surround(int cell, int column, int row) {
            int near = 0;
            int far = 0;
            for (int way = 0; way < WAYS; way++) {
                int next = cellAt(column + at(ACROSS, way), row + at(DOWN, way));
                lay(beside, way * CELLS_MOST + cell, next);
                near |= bitOf(next);
                far |= bitOf(cellAt(column + at(LEAP_ACROSS, way), row + at(LEAP_DOWN, way)));
            }
            lay(around, cell, near);
            lay(leaps, cell, far);
        }

        private void lookAhead(int i, int column, int rowAhead) {
            lay(steps, i, bitOf(cellAt(column, rowAhead)));
            lay(slants, i, bitOf(cellAt(column - 1, rowAhead)) | bitOf(cellAt(column + 1, rowAhead)));
        }

        private int cellAt(int column, int row) {
            boolean inside = column >= 0 && column < width && row >= 0 && row < height;
            return inside ? row * width + column : NOWHERE;
        }

        private static int bitOf(int cell) {
            return cell == NOWHERE ? 0 : 1 << cell;
        }

        /** Along every second way as far as CELLS are empty, and the first that is not. */
        private int lines(int cell, int firstWay, int full) {
            int seen = 0;
            for (int way = firstWay; way < WAYS; way += 2) {
                int next = at(beside, way * CELLS_MOST + cell);
                for (int i = 1; i < SIDE_MOST && next != NOWHERE; i++) {
                    seen |= 1 << next;
                    next = has(full, next) ? NOWHERE : at(beside, way * CELLS_MOST + next);
                }
            }
            return seen;
        }
    }

    /** How THE BOARD lies: signs and times by four bits a CELL, who is ON, who has LOST. */
    private static final class Place {
        // The place one PLY on is worked out here, so that looking ahead makes nothing.
        private final Place under;
        private final int[] row = new int[PLIES_MOST];
        private int size = 0;

        private long signs = 0, times = 0;
        private int white = 0, black = 0, dead = 0, kings = 0;
        private int on = WHITE, lost = NONE;

        Place(Place under) {
            this.under = under;
        }

        void clear() {
            set(0, 0, WHITE, NONE);
        }

        void set(long newSigns, long newTimes, int newOn, int newLost) {
            for (int cell = 0; cell < CELLS_MOST; cell++) {
                put(cell, nibble(newSigns, cell));
            }
            times = newTimes;
            on = newOn;
            lost = newLost;
        }

        void copy(Place other) {
            signs = other.signs;
            times = other.times;
            white = other.white;
            black = other.black;
            dead = other.dead;
            kings = other.kings;
            on = other.on;
            lost = other.lost;
        }

        void put(int cell, int sign) {
            int bit = 1 << cell;
            int side = sideOf(sign);
            signs = signs & ~(15L << 4 * cell) | (long) sign << 4 * cell;
            white = with(white, bit, side == WHITE);
            black = with(black, bit, side == BLACK);
            dead = with(dead, bit, sign == DEAD);
            kings = with(kings, bit, kindOf(sign) == KING);
        }

        int sign(int cell) {
            return nibble(signs, cell);
        }

        /** Behind how many PLIES one that is DEAD is gone; 0: never. */
        int lying(int cell) {
            return nibble(times, cell);
        }

        int men(int side) {
            return side == WHITE ? white : black;
        }

        int menCount() {
            return Integer.bitCount(white | black);
        }

        int full() {
            return white | black | dead;
        }

        /** CELLS to which a MAN can GO, or at which it can TAKE. */
        int reach(Field field, int cell) {
            int sign = sign(cell);
            int side = sideOf(sign);
            if (side == NONE) {
                return 0;
            }
            int full = full();
            int aimed = field.aimed(sign, cell, full);
            return field.going(sign, cell, aimed) & ~full | aimed & men(1 - side);
        }

        /** Fills the row with all PLIES that there are: how many. */
        int list(Field field) {
            size = 0;
            if (lost != NONE) {
                return 0;
            }
            int mine = men(on);
            for (int from = 0; from < field.cells; from++) {
                if (has(mine, from)) {
                    listFrom(from, reach(field, from), field.cells);
                }
            }
            if (size == 0) {
                setPly(0, PASSED);
                size = 1;
            }
            return size;
        }

        int ply(int i) {
            return i >= 0 && i < size ? at(row, i) : PASSED;
        }

        void setPly(int i, int ply) {
            lay(row, i, ply);
        }

        void follow(Place before, int ply, int last) {
            copy(before);
            make(ply, last);
        }

        void make(int ply, int last) {
            // The DEAD of earlier PLIES age first: one that falls now has all its time ahead.
            age();
            on = 1 - on;
            if (ply == PASSED) {
                return;
            }
            int from = ply / PLY;
            int to = ply % PLY;
            if (sign(to) != EMPTY) {
                fall(to, last);
                return;
            }
            put(to, sign(from));
            put(from, EMPTY);
        }

        /** Whether who is ON can make the last K of the other side FALL now. */
        boolean canFellLast(Field field) {
            int theirs = kings & men(1 - on);
            if (Integer.bitCount(theirs) != 1) {
                return false;
            }
            int mine = men(on);
            for (int cell = 0; cell < field.cells; cell++) {
                if (has(mine, cell) && (field.aimed(sign(cell), cell, full()) & theirs) != 0) {
                    return true;
                }
            }
            return false;
        }

        int differing(Place other) {
            long bits = signs ^ other.signs;
            bits |= bits >>> 1;
            bits |= bits >>> 2;
            return Long.bitCount(bits & 0x1111111111111111L);
        }

        /** As WAYS means it: who has LOST does not matter. */
        boolean isAs(Place other) {
            return signs == other.signs && times == other.times && on == other.on;
        }

        private void listFrom(int from, int reached, int cells) {
            for (int to = 0; to < cells; to++) {
                if (has(reached, to)) {
                    setPly(size, from * PLY + to);
                    size++;
                }
            }
        }

        private void fall(int cell, int last) {
            boolean king = has(kings, cell);
            int side = sideOf(sign(cell));
            put(cell, DEAD);
            times |= (long) last << 4 * cell;
            if (king && (kings & men(side)) == 0) {
                lost = side;
            }
        }

        private void age() {
            if (times == 0) {
                return;
            }
            for (int cell = 0; cell < CELLS_MOST; cell++) {
                int time = lying(cell);
                if (time > 0) {
                    times -= 1L << 4 * cell;
                }
                if (time == 1) {
                    put(cell, EMPTY);
                }
            }
        }

        private static int nibble(long nibbles, int cell) {
            return (int) (nibbles >>> 4 * cell) & 15;
        }

        private static int with(int cells, int bit, boolean is) {
            return is ? cells | bit : cells & ~bit;
        }
    }

    /** Places laid by, each to be had again. */
    private static final class Shelf {
        private final long[] signs, times;
        // NONE for who is ON: nothing lies there.
        private final int[] ons, losts;

        Shelf(int size) {
            int length = size > 0 ? size : 0;
            signs = new long[length];
            times = new long[length];
            ons = new int[length];
            losts = new int[length];
            for (int i = 0; i < length; i++) {
                ons[i] = NONE;
            }
        }

        void clear() {
            for (int i = 0; i < ons.length; i++) {
                ons[i] = NONE;
            }
        }

        boolean holds(int i) {
            return isInside(i) && ons[i] != NONE;
        }

        void set(int i, Place place) {
            if (isInside(i)) {
                signs[i] = place.signs;
                times[i] = place.times;
                ons[i] = place.on;
                losts[i] = place.lost;
            }
        }

        void get(int i, Place place) {
            if (holds(i)) {
                place.set(signs[i], times[i], ons[i], losts[i]);
            }
        }

        private boolean isInside(int i) {
            return i >= 0 && i < signs.length && i < times.length && i < ons.length && i < losts.length;
        }
    }

    /** THE ROW of PLIES: the places ahead of them, the first one forgotten when they are too many. */
    private static final class Past {
        private final Shelf places = new Shelf(ROW_MOST);
        private int first = 0, size = 0;

        void clear() {
            first = 0;
            size = 0;
        }

        void add(Place place) {
            places.set((first + size) % ROW_MOST, place);
            if (size < ROW_MOST) {
                size++;
            } else {
                first = (first + 1) % ROW_MOST;
            }
        }

        void takeLast(Place place) {
            if (size > 0) {
                size--;
                places.get((first + size) % ROW_MOST, place);
            }
        }
    }
}
