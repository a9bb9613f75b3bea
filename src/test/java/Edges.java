import java.math.BigInteger;
import java.util.function.Supplier;
import java.util.function.ToLongFunction;

/** What the tests of edges share: answers that are due, objects amid a game, and that a call changes nothing. */
abstract class Edges {
    static final int UNKNOWN = -1, OUTSIDE = -2, STATE = -3, FULL = -4, NONE = -9;
    static final int LEAST = Integer.MIN_VALUE, MOST = Integer.MAX_VALUE;
    static final String SIGNS = ".#KRBNPkrbnp", MEN = "KRBNPkrbnp";
    static final long TIMES = 6364136223846793005L, AND = 1442695040888963407L;

    static void due(long got, long want) {
        if (got != want) {
            throw new AssertionError("answered " + got + ", due is " + want);
        }
    }

    /** An answer that is due, of a call that must not change anything. */
    static void still(Supplier<StayWhereFell> begun, ToLongFunction<StayWhereFell> call, long want) {
        StayWhereFell game = begun.get();
        due(call.applyAsLong(game), want);
        String then = Seen.of(game);
        String first = Seen.of(begun.get());
        if (!then.equals(first)) {
            throw new AssertionError("changed something: it was " + first + ", it is " + then);
        }
    }

    static void lies(StayWhereFell game, String want) {
        String got = Check.told(game);
        if (!got.equals(want)) {
            throw new AssertionError("lies " + got + ", due is " + want);
        }
    }

    /** Numbers that are not from least to most: those next to them, and the farthest ones. */
    static int[] beyond(int least, int most) {
        return new int[] {least - 1, most + 1, least - 2, most + 2, LEAST, MOST, LEAST + 1, MOST - 1};
    }

    /** A game in its fifth ply: one is DEAD, both slots hold something, THE TEXT is a board, THE SEED is 77. */
    static StayWhereFell amid() {
        StayWhereFell game = Check.lie("G443wK..rp...R..nP..k");
        due(game.move(8, 4), 'p');
        due(game.keep(0), 6);
        due(game.move(3, 2), '.');
        due(game.move(8, 9), '.');
        due(game.keep(1), 6);
        due(game.move(11, 5), '.');
        due(game.move(0, 5), 'n');
        due(game.seed(77), 0);
        lies(game, "G443bK.r..#...R..P..k");
        return game;
    }

    /** The same game one ply later: WHITE has lost, and THE TEXT is the beginning of another board. */
    static StayWhereFell lost() {
        StayWhereFell game = amid();
        due(game.move(2, 0), 'K');
        due(game.count(9), 0);
        game.wipe();
        due(game.write(3, 0x473333), 3);
        return game;
    }

    /** A row of plies: each is 100 * from + to, or NONE for a pass. */
    static void go(StayWhereFell game, int... plies) {
        for (int ply : plies) {
            int answer = ply == NONE ? game.pass() : game.move(ply / 100, ply % 100);
            if (answer < 0) {
                throw new AssertionError("the ply " + ply + " answered " + answer);
            }
        }
    }

    static void write(StayWhereFell game, String text) {
        for (int i = 0; i < text.length(); i++) {
            due(game.write(1, text.charAt(i)), game.count(0));
        }
    }

    /** The fault of a text, on a new object. */
    static int fault(String text) {
        StayWhereFell game = new StayWhereFell();
        write(game, text);
        return game.fault();
    }

    static String text(int wide, int high, String last, char on, char sign) {
        return "G" + wide + high + last + on + String.valueOf(sign).repeat(wide * high);
    }

    /** An empty board, LAST 0, with one sign on one cell. */
    static StayWhereFell alone(int wide, int high, char sign, int cell) {
        StringBuilder text = new StringBuilder(text(wide, high, "0", 'w', '.'));
        text.setCharAt(5 + cell, sign);
        return Check.lie(text.toString());
    }

    /** THE SEED of which the next one has these upper 31 bits, and these lower 33. */
    static long seedFor(long upper, long lower) {
        BigInteger all = BigInteger.ONE.shiftLeft(64);
        BigInteger next = BigInteger.valueOf(upper).shiftLeft(33).add(BigInteger.valueOf(lower));
        BigInteger times = BigInteger.valueOf(TIMES).modInverse(all);
        return next.subtract(BigInteger.valueOf(AND)).multiply(times).mod(all).longValue();
    }
}
