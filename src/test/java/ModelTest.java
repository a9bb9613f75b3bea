import java.util.Random;

/** Runs of calls by chance (each by its number, so that it can be had again), held against the model. */
final class ModelTest {
    private static final int RUNS = 1500, CALLS = 120;

    private final Check check = new Check();
    private final Random chance;
    private final StayWhereFell game = new StayWhereFell();
    private final Model model = new Model();
    private final StringBuilder log = new StringBuilder();
    private int cells = 1;

    private ModelTest(long run) {
        chance = new Random(run);
    }

    public static void main(String[] args) {
        int wrong = 0;
        long calls = 0;
        for (int run = 0; run < RUNS; run++) {
            ModelTest test = new ModelTest(run);
            for (int i = 0; i < CALLS; i++) {
                calls++;
                if (!test.step()) {
                    wrong++;
                    System.out.println("run " + run + ":\n" + test.log);
                    break;
                }
            }
            if (wrong > 3) {
                break;
            }
        }
        System.out.println("the model: " + calls + " calls, " + wrong + " runs not as due");
        if (wrong != 0) {
            System.exit(1);
        }
    }

    private boolean same(String call, long got, long want) {
        log.append(call).append(" answered ").append(got).append(", the model says ").append(want).append('\n');
        if (got != want) {
            return false;
        }
        for (int what = -1; what <= 10; what++) {
            if (game.count(what) != model.count(what)) {
                log.append("count(" + what + ") answers " + game.count(what) + ", the model says " + model.count(what));
                return false;
            }
        }
        for (int cell = -1; cell <= 16; cell++) {
            if (game.cell(cell) != model.cell(cell) || game.gone(cell) != model.gone(cell)) {
                log.append("CELL " + cell + " is not as due");
                return false;
            }
        }
        return true;
    }

    private int some(int from, int to) {
        return from + chance.nextInt(to - from + 1);
    }

    /** Mostly a cell that there is. */
    private int someCell() {
        int kind = chance.nextInt(40);
        if (kind == 0) {
            return chance.nextInt();
        }
        return kind == 1 ? some(-2, 18) : chance.nextInt(cells);
    }

    private String someBoard() {
        int wide = some(1, 4);
        int high = some(1, 4);
        String[] mixes = {".........KkRrBbNnPp##", "....KkRrBbNnPp", "........KRkr##", "......KkPpPp##",
            "......##KkBbNn", "...........KkQ", "........KKkkRNrn", "KkRrBbNnPp"};
        String mix = mixes[chance.nextInt(mixes.length)];
        StringBuilder text = new StringBuilder("G").append(wide).append(high);
        text.append(chance.nextInt(3) == 0 ? 0 : some(0, 9)).append(chance.nextBoolean() ? 'w' : 'b');
        // The model's looking ahead is slow: few men do on large boards.
        int fewer = chance.nextInt(10) == 0 ? 0 : wide * high > 9 ? 5 : wide * high > 6 ? 3 : 1;
        for (int i = 0; i < wide * high; i++) {
            char sign = mix.charAt(chance.nextInt(mix.length()));
            for (int j = 0; j < fewer && "RrBbNnPp".indexOf(sign) >= 0; j++) {
                sign = mix.charAt(chance.nextInt(mix.length()));
            }
            text.append(sign);
        }
        if (chance.nextInt(12) == 0) {
            text.setCharAt(chance.nextInt(text.length()), (char) chance.nextInt(256));
        }
        if (chance.nextInt(12) == 0) {
            text.setLength(chance.nextInt(text.length()));
        }
        return chance.nextInt(12) == 0 ? text + "." : text.toString();
    }

    private boolean newBoard() {
        String text = someBoard();
        boolean good = same("wipe()", game.wipe(), model.wipe());
        for (int i = 0; i < text.length();) {
            int n = Math.min(some(1, 8), text.length() - i);
            long v = chance.nextLong();
            for (int j = 0; j < n; j++) {
                v = v << 8 | text.charAt(i + j);
            }
            good = good && same("write(" + n + ", " + v + ")", game.write(n, v), model.write(n, v));
            i += n;
        }
        good = good && same("fault()", game.fault(), model.fault());
        good = good && same("board() of " + text, game.board(), model.board());
        cells = model.count(1) * model.count(2);
        return good;
    }

    private boolean somePly() {
        int plies = model.plies();
        if (plies <= 1 && chance.nextInt(3) > 0) {
            return same("pass()", game.pass(), model.pass());
        }
        for (int tries = 0; tries < 200; tries++) {
            int from = chance.nextInt(cells);
            int to = chance.nextInt(cells);
            boolean ours = (model.count(model.count(4) == 0 ? 5 : 6) >> from & 1) == 1;
            if (ours && (model.can(from) >> to & 1) == 1) {
                return same("move(" + from + ", " + to + ")", game.move(from, to), model.move(from, to));
            }
        }
        return same("pass()", game.pass(), model.pass());
    }

    private boolean light() {
        int c = someCell();
        int d = someCell();
        int slot = chance.nextInt(12) == 0 ? some(-2, 3) : chance.nextInt(2);
        switch (chance.nextInt(22)) {
            case 0: return same("aims(" + c + ")", game.aims(c), model.aims(c));
            case 1: return same("can(" + c + ")", game.can(c), model.can(c));
            case 2: return same("plies()", game.plies(), model.plies());
            case 3: return same("move(" + c + ", " + d + ")", game.move(c, d), model.move(c, d));
            case 4: return same("pass()", game.pass(), model.pass());
            case 5: return same("undo()", game.undo(), model.undo());
            case 6: return judged();
            case 7: return same("odds(true)", game.odds(true), model.odds(true));
            case 8: return same("odds(false)", game.odds(false), model.odds(false));
            case 9: return same("parts()", game.parts(), model.parts());
            case 10: return same("part(" + c + ")", game.part(c), model.part(c));
            case 11: return same("comes(" + c + ")", game.comes(c), model.comes(c));
            case 12: return same("comesAt(" + c + ", " + d + ")", game.comesAt(c, d), model.comesAt(c, d));
            case 13: return same("shut()", game.shut(), model.shut());
            case 14: {
                long v = chance.nextLong();
                return same("seed(" + v + ")", game.seed(v), model.seed(v));
            }
            case 15: {
                int m = chance.nextInt(8) == 0 ? some(-1, 43) : some(1, 40);
                return same("play(" + m + ")", game.play(m), model.play(m))
                    && same("seed(5)", game.seed(5), model.seed(5));
            }
            case 16: return same("keep(" + slot + ")", game.keep(slot), model.keep(slot));
            case 17: return same("again(" + slot + ")", game.again(slot), model.again(slot));
            case 18: return same("fault()", game.fault(), model.fault());
            case 19: {
                int n = some(-1, 9);
                long v = chance.nextLong();
                return chance.nextInt(4) > 0
                    || same("write(" + n + ", " + v + ")", game.write(n, v), model.write(n, v));
            }
            default: return true;
        }
    }

    private boolean judged() {
        int n = chance.nextInt(10) == 0 ? some(-1, 3) : some(1, 2);
        int row = chance.nextInt(10) == 0 ? chance.nextInt() : chance.nextInt(100_000_000);
        for (int tries = 0; tries < 60; tries++) {
            int one = chance.nextInt(cells) * 100 + chance.nextInt(cells);
            int other = chance.nextInt(cells) * 100 + chance.nextInt(cells);
            int told = n == 1 ? one : one * 10_000 + other;
            if (model.judge(n, told) == Model.NONE) {
                row = told;
                break;
            }
        }
        return same("judge(" + n + ", " + row + ")", game.judge(n, row), model.judge(n, row));
    }

    private boolean looking() {
        int most = model.plies() > 22 ? 2 : model.plies() > 12 ? 3 : 4;
        int n = chance.nextInt(20) == 0 ? some(-1, 6) : some(1, most);
        if (n > most && n <= 4) {
            n = most;
        }
        int i = some(-1, 6);
        int slot = chance.nextInt(2);
        switch (chance.nextInt(4)) {
            case 0: return same("wins(" + n + ")", game.wins(n), model.wins(n));
            case 1: return same("keys(" + n + ")", game.keys(n), model.keys(n));
            case 2: return same("keyAt(" + n + ", " + i + ")", game.keyAt(n, i), model.keyAt(n, i));
            default: return same("ways(" + slot + ", " + n + ")", game.ways(slot, n), model.ways(slot, n));
        }
    }

    /** Keeps, goes some plies on, and undoes or not, so that there are ways to what was kept. */
    private boolean wayBack() {
        int slot = chance.nextInt(2);
        int plies = some(1, 3);
        boolean good = true;
        if (chance.nextBoolean()) {
            good = same("keep(" + slot + ")", game.keep(slot), model.keep(slot));
            for (int i = 0; good && i < plies; i++) {
                good = somePly();
            }
        } else {
            for (int i = 0; good && i < plies; i++) {
                good = somePly();
            }
            good = good && same("keep(" + slot + ")", game.keep(slot), model.keep(slot));
            for (int i = 0; good && i < plies; i++) {
                good = same("undo()", game.undo(), model.undo());
            }
        }
        int n = model.plies() > 22 ? 2 : 3;
        for (int i = 1; good && i <= n; i++) {
            good = same("ways(" + slot + ", " + i + ")", game.ways(slot, i), model.ways(slot, i));
        }
        return good;
    }

    private boolean step() {
        int kind = chance.nextInt(100);
        if (kind < 4 || cells == 1 && kind < 40) {
            return newBoard();
        }
        if (kind < 40) {
            return somePly();
        }
        if (kind < 46) {
            return looking();
        }
        return kind < 49 ? wayBack() : light();
    }
}
