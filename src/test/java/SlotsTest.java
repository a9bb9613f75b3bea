/** Promises 24 to 28: ways to what was kept, plays by the seed, slots. */
final class SlotsTest {
    private static final int UNKNOWN = -1, OUTSIDE = -2, STATE = -3, NONE = -9;
    private static final int[] NO_SLOTS = {-1, 2, Integer.MIN_VALUE, Integer.MAX_VALUE};
    private static final Check CHECK = new Check();

    public static void main(String[] args) {
        ways();
        waysByTheDead();
        waysRefused();
        seed();
        play();
        playTillLost();
        keep();
        again();
        CHECK.end("promises 24 to 28");
    }

    private static void ways(String what, StayWhereFell game, int slot, int one, int two, int three) {
        CHECK.due("24: " + what + ", 1", game.ways(slot, 1), one);
        CHECK.due("24: " + what + ", 2", game.ways(slot, 2), two);
        CHECK.due("24: " + what + ", 3", game.ways(slot, 3), three);
    }

    private static void ways() {
        StayWhereFell passes = Check.lie("G110w.");
        passes.keep(0);
        ways("passes", passes, 0, 0, 1, 0);
        passes.pass();
        ways("a pass ahead", passes, 0, 1, 0, 1);

        StayWhereFell game = Check.lie("G220wK...");
        game.keep(0);
        ways("K comes not back by one", game, 0, 0, 0, 0);
        game.move(0, 1);
        game.keep(1);
        game.undo();
        ways("there and by a cell between", game, 1, 1, 0, 2);
        game.move(0, 3);
        ways("from 3, and WHITE is on then", game, 0, 0, 0, 1);
        ways("from 3, and BLACK is on then", game, 1, 0, 1, 0);
        game.pass();
        ways("from 3, WHITE on", game, 1, 1, 0, 2);
        ways("from 3, WHITE on", game, 0, 0, 1, 0);
        CHECK.lies("24: nothing changed", game, "G220w...K");
        CHECK.due("24: nothing changed", game.count(8), 2);
        CHECK.due("28: as it was kept", game.again(0), 1);
        CHECK.lies("28: as it was kept", game, "G220wK...");
    }

    private static void waysByTheDead() {
        StayWhereFell ever = Check.lie("G410wRp.R");
        ever.move(0, 1);
        ever.keep(0);
        ever.undo();
        ways("either takes", ever, 0, 2, 0, 0);
        ever.move(3, 1);
        CHECK.lies("24: the other does", ever, "G410bR#.R");
        ways("it lies so now; R can go and come back, but not by three", ever, 0, 0, 0, 0);

        // k goes while p is gone behind it: a ply that changes three cells.
        StayWhereFell three = Check.lie("G411wRp.k");
        three.move(0, 1);
        three.move(3, 2);
        CHECK.lies("24: k comes as p is gone", three, "G411wR.k.");
        three.keep(0);
        three.undo();
        ways("k comes as p is gone", three, 0, 1, 0, 0);
        three.undo();
        ways("R takes, and k comes", three, 0, 0, 1, 0);

        // Taken now or two plies later, it lies longer then.
        StayWhereFell some = Check.lie("G414wRpP.");
        some.move(0, 1);
        some.pass();
        some.pass();
        some.keep(0);
        CHECK.due("24: left", some.gone(1), 2);
        some.undo();
        some.undo();
        some.undo();
        ways("how long it lies", some, 0, 0, 0, 1);
        StayWhereFell lost = Check.lie("G310wRk.");
        lost.move(0, 1);
        lost.keep(0);
        ways("a side has lost: there are no rows", lost, 0, 0, 0, 0);
        lost.undo();
        ways("it may have lost then", lost, 0, 1, 0, 0);
    }

    private static void waysRefused() {
        StayWhereFell game = Check.lie("G110w.");
        for (int slot : NO_SLOTS) {
            CHECK.due("24: slot " + slot, game.ways(slot, 1), UNKNOWN);
            CHECK.due("24: UNKNOWN ahead of OUTSIDE, slot " + slot, game.ways(slot, 0), UNKNOWN);
            CHECK.due("27: slot " + slot, game.keep(slot), UNKNOWN);
            CHECK.due("28: slot " + slot, game.again(slot), UNKNOWN);
        }
        int[] outside = {0, 4, -1, Integer.MIN_VALUE, Integer.MAX_VALUE};
        for (int n : outside) {
            CHECK.due("24: OUTSIDE ahead of STATE, n " + n, game.ways(0, n), OUTSIDE);
        }
        CHECK.due("24: nothing is kept", game.ways(0, 1), STATE);
        game.keep(1);
        CHECK.due("24: nothing is kept there", game.ways(0, 2), STATE);
        CHECK.due("24: here it is", game.ways(1, 2), 1);
        CHECK.due("24: n 4", game.ways(1, 4), OUTSIDE);
    }

    private static void seed() {
        StayWhereFell game = new StayWhereFell();
        CHECK.due("25: 0 at first", game.seed(Long.MIN_VALUE), 0);
        CHECK.due("25: what it was", game.seed(Long.MAX_VALUE), Long.MIN_VALUE);
        CHECK.due("25: what it was", game.seed(-1), Long.MAX_VALUE);
        CHECK.due("25: what it was", game.seed(-1), -1);
    }

    private static long next(long x) {
        return x * 6364136223846793005L + 1442695040888963407L;
    }

    private static void play() {
        StayWhereFell game = Check.lie("G110w.");
        game.seed(12345);
        CHECK.due("26: passes", game.play(3), 0);
        CHECK.due("26: the seed is on by three", game.seed(1), next(next(next(12345))));
        CHECK.due("26: forty", game.play(40), 0);
        long x = 1;
        for (int i = 0; i < 40; i++) {
            x = next(x);
        }
        CHECK.due("26: forty", game.seed(0), x);
        CHECK.due("26: nothing else changed", game.count(8), 0);
        CHECK.lies("26: nothing else changed", game, "G110w.");
        int[] outside = {0, 41, -1, Integer.MIN_VALUE, Integer.MAX_VALUE};
        for (int m : outside) {
            CHECK.due("26: m " + m, game.play(m), OUTSIDE);
        }
        CHECK.due("26: nothing changed", game.seed(0), 0);

        // R has 3 plies, by the cells to which: 1 takes, 4 and 8 do not; so the first of them leaves one man.
        StayWhereFell three = Check.lie("G430wRp##.###.###");
        CHECK.due("26: three plies", three.plies(), 3);
        for (long seed = -40; seed < 40; seed++) {
            three.seed(seed);
            long which = (next(seed) >>> 33) % 3;
            CHECK.due("26: one by the seed " + seed, three.play(1), which == 0 ? 1 : 2);
        }
    }

    private static void playTillLost() {
        StayWhereFell game = Check.lie("G210wRk");
        game.seed(5);
        CHECK.due("26: one ply, and BLACK has lost", game.play(40), 1);
        CHECK.due("26: one ply, and BLACK has lost", game.seed(5), next(5));
        CHECK.due("26: nothing else changed", game.count(9), NONE);
        game.move(0, 1);
        CHECK.due("26: lost already", game.play(40), 1);
        CHECK.due("26: no ply", game.seed(5), 5);
        CHECK.due("26: OUTSIDE all the same", game.play(0), OUTSIDE);
    }

    private static void keep() {
        StayWhereFell game = Check.lie("G330wKr#.kP...");
        CHECK.due("27: four men", game.keep(0), 4);
        game.move(0, 1);
        CHECK.due("27: three men", game.keep(1), 3);
        CHECK.due("27: kept anew", game.keep(0), 3);
        CHECK.due("27: nothing changed", game.count(8), 1);
        game.move(4, 0);
        CHECK.due("28: the later", game.again(0), 3);
        CHECK.lies("28: the later", game, "G330bK##.kP...");
    }

    private static void again() {
        StayWhereFell game = Check.lie("G413wRp.r");
        CHECK.due("28: none were kept", game.again(0), STATE);
        CHECK.due("28: none were kept", game.again(1), STATE);
        game.keep(1);
        CHECK.due("28: none were kept there", game.again(0), STATE);
        game.move(0, 1);
        game.keep(0);
        game.move(3, 2);
        CHECK.due("28: three men", game.again(1), 3);
        CHECK.lies("28: at first", game, "G413wRp.r");
        CHECK.due("28: the row is empty", game.count(8), 0);
        CHECK.due("28: the row is empty", game.undo(), STATE);
        CHECK.due("28: two men", game.again(0), 2);
        CHECK.lies("28: on", game, "G413bR#.r");
        CHECK.due("28: how long it lies", game.gone(1), 3);
        game.move(3, 2);
        CHECK.due("28: gone on from", game.gone(1), 2);
        CHECK.due("28: again and again", game.again(0), 2);
        CHECK.due("28: how long it lies", game.gone(1), 3);

        StayWhereFell lost = Check.lie("G210wRk");
        lost.keep(0);
        lost.move(0, 1);
        lost.keep(1);
        lost.again(0);
        CHECK.due("28: nobody has lost", lost.count(9), NONE);
        lost.again(1);
        CHECK.due("28: who has lost", lost.count(9), 1);
        CHECK.due("28: no more plies", lost.plies(), 0);
        CHECK.due("28: who is on", lost.count(4), 1);
        lost.board();
        CHECK.due("28: there is the text yet", lost.plies(), 1);
        CHECK.due("28: a new board keeps nothing", lost.again(1), STATE);
    }
}
