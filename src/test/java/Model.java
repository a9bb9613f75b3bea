import java.util.ArrayDeque;
import java.util.ArrayList;
import java.util.Arrays;
import java.util.List;

/**
 * The document told once more, as slowly and as plainly as can be, to hold the program against.
 * It works on rows and columns, and on signs alone; it shares no thought with the program.
 */
final class Model {
    static final int UNKNOWN = -1, OUTSIDE = -2, STATE = -3, FULL = -4, NONE = -9;

    static final class Lie {
        char[][] sign;
        int[][] time;
        boolean white = true;
        int lost = NONE;

        Lie(int rows, int columns) {
            sign = new char[rows][columns];
            time = new int[rows][columns];
            for (char[] row : sign) {
                Arrays.fill(row, '.');
            }
        }

        Lie like() {
            Lie other = new Lie(sign.length, sign[0].length);
            for (int r = 0; r < sign.length; r++) {
                other.sign[r] = sign[r].clone();
                other.time[r] = time[r].clone();
            }
            other.white = white;
            other.lost = lost;
            return other;
        }

        boolean same(Lie other) {
            return Arrays.deepEquals(sign, other.sign) && Arrays.deepEquals(time, other.time) && white == other.white;
        }
    }

    private String text = "";
    private int wide = 1, high = 1, last = 0;
    private Lie now = new Lie(1, 1);
    private final ArrayDeque<Lie> past = new ArrayDeque<>();
    private final Lie[] slots = new Lie[2];
    private long x = 0;

    int write(int n, long v) {
        if (n < 1 || n > 8) {
            return OUTSIDE;
        }
        if (text.length() + n > 24) {
            return FULL;
        }
        for (int i = n; i > 0; i--) {
            text += (char) ((v >> 8 * (i - 1)) & 0xff);
        }
        return text.length();
    }

    int wipe() {
        int was = text.length();
        text = "";
        return was;
    }

    /** Whether something can come behind a text (of any length) so that it is a board. */
    private static boolean canBegin(String start) {
        for (char w = '1'; w <= '4'; w++) {
            for (char h = '1'; h <= '4'; h++) {
                String pattern = "G" + w + h + "[0-9][wb]" + "[.#KRBNPkrbnp]".repeat((w - '0') * (h - '0'));
                String some = "G" + w + h + "0w" + ".".repeat((w - '0') * (h - '0'));
                if (start.length() <= some.length() && (start + some.substring(start.length())).matches(pattern)) {
                    return true;
                }
            }
        }
        return false;
    }

    int fault() {
        for (int i = 1; i <= text.length(); i++) {
            if (!canBegin(text.substring(0, i))) {
                return i - 1;
            }
        }
        boolean whole = !text.isEmpty() && !canBegin(text + ".");
        return whole && text.length() > 5 ? NONE : text.length();
    }

    int board() {
        if (fault() != NONE) {
            return STATE;
        }
        wide = text.charAt(1) - '0';
        high = text.charAt(2) - '0';
        last = text.charAt(3) - '0';
        now = new Lie(high, wide);
        now.white = text.charAt(4) == 'w';
        for (int i = 0; i < wide * high; i++) {
            now.sign[i / wide][i % wide] = text.charAt(5 + i);
        }
        past.clear();
        Arrays.fill(slots, null);
        return wide * high;
    }

    private boolean is(int cell) {
        return cell >= 0 && cell < wide * high;
    }

    private char sign(Lie lie, int cell) {
        return lie.sign[cell / wide][cell % wide];
    }

    private static boolean man(char sign) {
        return Character.isLetter(sign);
    }

    private static boolean white(char sign) {
        return Character.isUpperCase(sign);
    }

    private static boolean foes(char one, char other) {
        return man(one) && man(other) && white(one) != white(other);
    }

    int cell(int cell) {
        return is(cell) ? sign(now, cell) : UNKNOWN;
    }

    int gone(int cell) {
        if (!is(cell)) {
            return UNKNOWN;
        }
        return sign(now, cell) == '#' ? now.time[cell / wide][cell % wide] : STATE;
    }

    private boolean aimsAt(Lie lie, int from, int to) {
        char sign = sign(lie, from);
        int down = to / wide - from / wide;
        int across = to % wide - from % wide;
        int most = Math.max(Math.abs(down), Math.abs(across));
        int least = Math.min(Math.abs(down), Math.abs(across));
        switch (Character.toUpperCase(sign)) {
            case 'K': return most == 1;
            case 'N': return most == 2 && least == 1;
            case 'P': return Math.abs(across) == 1 && down == (white(sign) ? -1 : 1);
            case 'R': return most > 0 && least == 0 && open(lie, from, to);
            case 'B': return most > 0 && least == most && open(lie, from, to);
            default: return false;
        }
    }

    private boolean open(Lie lie, int from, int to) {
        int down = Integer.signum(to / wide - from / wide);
        int across = Integer.signum(to % wide - from % wide);
        int row = from / wide + down;
        int column = from % wide + across;
        while (row * wide + column != to) {
            if (lie.sign[row][column] != '.') {
                return false;
            }
            row += down;
            column += across;
        }
        return true;
    }

    private boolean goesTo(Lie lie, int from, int to) {
        char sign = sign(lie, from);
        if (!man(sign) || sign(lie, to) != '.') {
            return false;
        }
        if (Character.toUpperCase(sign) == 'P') {
            return to == from + (white(sign) ? -wide : wide);
        }
        return aimsAt(lie, from, to);
    }

    private boolean reaches(Lie lie, int from, int to) {
        return goesTo(lie, from, to) || foes(sign(lie, from), sign(lie, to)) && aimsAt(lie, from, to);
    }

    int aims(int cell) {
        if (!is(cell)) {
            return UNKNOWN;
        }
        int bits = 0;
        for (int to = 0; is(to); to++) {
            bits += aimsAt(now, cell, to) ? 1 << to : 0;
        }
        return bits;
    }

    int can(int cell) {
        if (!is(cell)) {
            return UNKNOWN;
        }
        int bits = 0;
        for (int to = 0; is(to); to++) {
            bits += reaches(now, cell, to) ? 1 << to : 0;
        }
        return bits;
    }

    /** All plies, each as two cells; none for a pass. */
    private List<int[]> pliesOf(Lie lie) {
        List<int[]> all = new ArrayList<>();
        if (lie.lost != NONE) {
            return all;
        }
        for (int from = 0; is(from); from++) {
            for (int to = 0; is(to); to++) {
                char sign = sign(lie, from);
                if (man(sign) && white(sign) == lie.white && reaches(lie, from, to)) {
                    all.add(new int[] {from, to});
                }
            }
        }
        if (all.isEmpty()) {
            all.add(new int[0]);
        }
        return all;
    }

    private Lie after(Lie before, int[] ply) {
        Lie lie = before.like();
        if (ply.length == 2) {
            char who = sign(before, ply[0]);
            char whom = sign(before, ply[1]);
            if (whom == '.') {
                lie.sign[ply[0] / wide][ply[0] % wide] = '.';
                lie.sign[ply[1] / wide][ply[1] % wide] = who;
            } else {
                lie.sign[ply[1] / wide][ply[1] % wide] = '#';
                String left = "";
                for (char[] row : lie.sign) {
                    left += new String(row);
                }
                if (Character.toUpperCase(whom) == 'K' && left.indexOf(whom) < 0) {
                    lie.lost = whom == 'K' ? 0 : 1;
                }
            }
        }
        for (int i = 0; is(i); i++) {
            int r = i / wide;
            int c = i % wide;
            if (lie.sign[r][c] == '#' && sign(before, i) != '#') {
                lie.time[r][c] = last;
            } else if (before.time[r][c] > 0) {
                lie.time[r][c]--;
                if (lie.time[r][c] == 0) {
                    lie.sign[r][c] = '.';
                }
            }
        }
        lie.white = !before.white;
        return lie;
    }

    int plies() {
        return pliesOf(now).size();
    }

    private boolean mayMove(Lie lie, int from, int to) {
        for (int[] ply : pliesOf(lie)) {
            if (ply.length == 2 && ply[0] == from && ply[1] == to) {
                return true;
            }
        }
        return false;
    }

    private void step(int[] ply) {
        past.addLast(now);
        if (past.size() > 16) {
            past.removeFirst();
        }
        now = after(now, ply);
    }

    int move(int from, int to) {
        if (!is(from) || !is(to)) {
            return UNKNOWN;
        }
        if (!mayMove(now, from, to)) {
            return STATE;
        }
        int sign = sign(now, to);
        step(new int[] {from, to});
        return sign;
    }

    int pass() {
        List<int[]> all = pliesOf(now);
        if (all.isEmpty() || all.get(0).length != 0) {
            return STATE;
        }
        step(all.get(0));
        return now.white ? 0 : 1;
    }

    int undo() {
        if (past.isEmpty()) {
            return STATE;
        }
        now = past.removeLast();
        return past.size();
    }

    int judge(int n, int row) {
        if (n < 1 || n > 2 || row < 0 || String.valueOf(row).length() > 4 * n) {
            return OUTSIDE;
        }
        String figures = String.valueOf(row);
        figures = "0".repeat(4 * n - figures.length()) + figures;
        Lie lie = now;
        for (int i = 0; i < n; i++) {
            int from = Integer.parseInt(figures.substring(4 * i, 4 * i + 2));
            int to = Integer.parseInt(figures.substring(4 * i + 2, 4 * i + 4));
            if (!mayMove(lie, from, to)) {
                return i;
            }
            lie = after(lie, new int[] {from, to});
        }
        return NONE;
    }

    private boolean fells(Lie lie, boolean white, int n) {
        if (lie.lost != NONE) {
            return lie.lost == (white ? 1 : 0);
        }
        if (n == 0) {
            return false;
        }
        int good = 0;
        List<int[]> all = pliesOf(lie);
        for (int[] ply : all) {
            good += fells(after(lie, ply), white, n - 1) ? 1 : 0;
        }
        return lie.white == white ? good > 0 : good == all.size();
    }

    private List<int[]> keysOf(int n) {
        List<int[]> keys = new ArrayList<>();
        for (int[] ply : pliesOf(now)) {
            if (fells(after(now, ply), now.white, n - 1)) {
                keys.add(ply);
            }
        }
        return keys;
    }

    private int refused(int n) {
        if (n < 1 || n > 4) {
            return OUTSIDE;
        }
        return now.lost != NONE ? STATE : 0;
    }

    int wins(int n) {
        return refused(n) != 0 ? refused(n) : fells(now, now.white, n) ? 1 : 0;
    }

    int keys(int n) {
        return refused(n) != 0 ? refused(n) : keysOf(n).size();
    }

    int keyAt(int n, int i) {
        if (refused(n) != 0) {
            return refused(n);
        }
        List<int[]> keys = keysOf(n);
        if (i < 0 || i >= keys.size() || keys.get(i).length == 0) {
            return NONE;
        }
        return keys.get(i)[0] * 100 + keys.get(i)[1];
    }

    int odds(boolean upper) {
        List<int[]> all = pliesOf(now);
        if (all.isEmpty()) {
            return STATE;
        }
        int above = 0;
        int below = all.size();
        for (int[] ply : all) {
            above += ply.length == 2 && Character.toUpperCase(sign(now, ply[1])) == 'K' ? 1 : 0;
        }
        for (int d = below; d > 1; d--) {
            if (above % d == 0 && below % d == 0) {
                above /= d;
                below /= d;
            }
        }
        return upper ? above : below;
    }

    private int[] numbered() {
        int[] part = new int[wide * high];
        for (int i = 0; is(i); i++) {
            part[i] = sign(now, i) == '#' ? NONE : i;
        }
        for (int round = 0; round < 16; round++) {
            for (int a = 0; is(a); a++) {
                for (int b = 0; is(b); b++) {
                    boolean near = Math.abs(a / wide - b / wide) <= 1 && Math.abs(a % wide - b % wide) <= 1;
                    if (near && part[a] != NONE && part[b] != NONE) {
                        part[a] = Math.min(part[a], part[b]);
                    }
                }
            }
        }
        int next = 0;
        int[] names = new int[part.length];
        for (int i = 0; is(i); i++) {
            if (part[i] == i) {
                names[i] = next++;
            }
        }
        for (int i = 0; is(i); i++) {
            part[i] = part[i] == NONE ? NONE : names[part[i]];
        }
        return part;
    }

    int parts() {
        return Arrays.stream(numbered()).max().getAsInt() == NONE ? 0 : Arrays.stream(numbered()).max().getAsInt() + 1;
    }

    int part(int cell) {
        return is(cell) ? numbered()[cell] : UNKNOWN;
    }

    /** The board with one man on one cell, the dead, and nobody else. */
    private Lie alone(char man, int cell) {
        Lie lie = now.like();
        for (int i = 0; is(i); i++) {
            lie.sign[i / wide][i % wide] = i == cell ? man : sign(now, i) == '#' ? '#' : '.';
        }
        return lie;
    }

    int comes(int cell) {
        if (!is(cell)) {
            return UNKNOWN;
        }
        char man = sign(now, cell);
        if (!man(man)) {
            return 0;
        }
        int bits = 1 << cell;
        for (int round = 0; round < 16; round++) {
            for (int at = 0; is(at); at++) {
                for (int to = 0; is(to); to++) {
                    if ((bits >> at & 1) == 1 && goesTo(alone(man, at), at, to)) {
                        bits |= 1 << to;
                    }
                }
            }
        }
        return bits;
    }

    int comesAt(int cell, int other) {
        if (!is(cell) || !is(other)) {
            return UNKNOWN;
        }
        char man = sign(now, cell);
        if (!foes(man, sign(now, other))) {
            return STATE;
        }
        int from = comes(cell);
        int to = comes(other);
        for (int a = 0; is(a); a++) {
            for (int b = 0; is(b); b++) {
                if ((from >> a & 1) == 1 && (to >> b & 1) == 1 && aimsAt(alone(man, a), a, b)) {
                    return 1;
                }
            }
        }
        return 0;
    }

    int shut() {
        for (int a = 0; is(a); a++) {
            for (int b = 0; is(b); b++) {
                if (comesAt(a, b) == 1) {
                    return 0;
                }
            }
        }
        return 1;
    }

    private int rows(Lie lie, Lie kept, int n) {
        if (n == 0) {
            return lie.same(kept) ? 1 : 0;
        }
        int rows = 0;
        for (int[] ply : pliesOf(lie)) {
            rows += rows(after(lie, ply), kept, n - 1);
        }
        return rows;
    }

    int ways(int slot, int n) {
        if (slot < 0 || slot > 1) {
            return UNKNOWN;
        }
        if (n < 1 || n > 3) {
            return OUTSIDE;
        }
        return slots[slot] == null ? STATE : rows(now, slots[slot], n);
    }

    long seed(long v) {
        long was = x;
        x = v;
        return was;
    }

    private int men(Lie lie) {
        int men = 0;
        for (int i = 0; is(i); i++) {
            men += man(sign(lie, i)) ? 1 : 0;
        }
        return men;
    }

    int play(int m) {
        if (m < 1 || m > 40) {
            return OUTSIDE;
        }
        Lie lie = now;
        for (int i = 0; i < m && lie.lost == NONE; i++) {
            x = x * 6364136223846793005L + 1442695040888963407L;
            List<int[]> all = pliesOf(lie);
            long upper = x / (1L << 33) - (x < 0 && x % (1L << 33) != 0 ? 1 : 0) + (x < 0 ? 1L << 31 : 0);
            lie = after(lie, all.get((int) (upper % all.size())));
        }
        return men(lie);
    }

    int keep(int slot) {
        if (slot < 0 || slot > 1) {
            return UNKNOWN;
        }
        slots[slot] = now;
        return men(now);
    }

    int again(int slot) {
        if (slot < 0 || slot > 1) {
            return UNKNOWN;
        }
        if (slots[slot] == null) {
            return STATE;
        }
        now = slots[slot];
        past.clear();
        return men(now);
    }

    int count(int what) {
        int white = 0;
        int black = 0;
        int dead = 0;
        for (int i = 0; is(i); i++) {
            char sign = sign(now, i);
            white += man(sign) && white(sign) ? 1 << i : 0;
            black += man(sign) && !white(sign) ? 1 << i : 0;
            dead += sign == '#' ? 1 << i : 0;
        }
        int[] answers = {text.length(), wide, high, last, now.white ? 0 : 1, white, black, dead, past.size(), now.lost};
        return what < 0 || what >= answers.length ? OUTSIDE : answers[what];
    }
}
