/** Promises 15 to 18: in how many plies one wins, by how many first plies, odds. */
final class AheadTest {
    private static final int OUTSIDE = -2, STATE = -3, NONE = -9;
    private static final Check CHECK = new Check();

    public static void main(String[] args) {
        atOnce();
        byThree();
        notByThree();
        twoKings();
        theDeadInTheWay();
        refused();
        odds();
        CHECK.end("promises 15 to 18");
    }

    /** By n plies that many keys, for n from 1 to 4; and one wins, if there is one. */
    private static void keys(String what, String text, int one, int two, int three, int four) {
        StayWhereFell game = Check.lie(text);
        int[] want = {one, two, three, four};
        for (int n = 1; n <= 4; n++) {
            CHECK.due("15: " + what + ", wins(" + n + ")", game.wins(n), want[n - 1] > 0 ? 1 : 0);
            CHECK.due("16: " + what + ", keys(" + n + ")", game.keys(n), want[n - 1]);
            CHECK.due("17: " + what + ", behind the last", game.keyAt(n, want[n - 1]), NONE);
            CHECK.due("17: " + what + ", ahead of the first", game.keyAt(n, -1), NONE);
        }
        CHECK.lies("15: nothing changed", game, text);
        CHECK.due("15: nothing changed", game.count(8), 0);
    }

    private static void key(String text, int n, int i, int want) {
        CHECK.due("17: " + text + ", keyAt(" + n + ", " + i + ")", Check.lie(text).keyAt(n, i), want);
    }

    private static void atOnce() {
        keys("one takes", "G310wRk.", 1, 1, 1, 1);
        key("G310wRk.", 1, 0, 1);
        // Each can go next to K as well: wherever K goes, or takes one, another takes it.
        keys("three take the same", "G330bb.r...r.K", 3, 3, 6, 6);
        key("G330bb.r...r.K", 1, 0, 8);
        key("G330bb.r...r.K", 1, 1, 208);
        key("G330bb.r...r.K", 2, 2, 608);
        key("G330bb.r...r.K", 1, 3, NONE);
        key("G330bb.r...r.K", 1, Integer.MAX_VALUE, NONE);
        key("G330bb.r...r.K", 1, Integer.MIN_VALUE, NONE);
        keys("the other side has no K", "G310wRr.", 0, 0, 0, 0);
        keys("its own K is none to win by", "G310wKR.", 0, 0, 0, 0);
        // BLACK has no K itself; r on 1 stands beside K, that would take it.
        keys("one that has no K wins as well", "G310bK.r", 1, 1, 1, 1);
        key("G310bK.r", 1, 0, 200);
    }

    private static void byThree() {
        // B goes to 6, and k must go to 4; on 4 it would be taken itself.
        keys("k must go where B aims", "G330wk#B#.....", 0, 0, 1, 1);
        key("G330wk#B#.....", 3, 0, 206);
        key("G330wk#B#.....", 4, 0, 206);
        // k can but pass; N aims at it from 6 and from 9.
        keys("k can but pass", "G440wk#..##.........N", 0, 0, 2, 2);
        key("G440wk#..##.........N", 3, 0, 1506);
        key("G440wk#..##.........N", 3, 1, 1509);
        key("G440wk#..##.........N", 2, 0, NONE);
        keys("n stands by, and there is nothing it can do", "G440wk##.####..n....N", 0, 0, 1, 1);
        key("G440wk##.####..n....N", 3, 0, 1509);
        keys("n takes the last K of WHITE meanwhile", "G440wk##K####..n....N", 0, 0, 0, 0);
        // One of two K is no loss: N goes on to 0.
        keys("n takes one of two K meanwhile", "G440wk##K####..nK...N", 0, 0, 1, 1);
    }

    private static void notByThree() {
        keys("far off", "G440wK..............k", 0, 0, 0, 0);
        keys("who comes first is taken", "G310wK.k", 0, 0, 0, 0);
        keys("a pass helps nobody", "G310wKPr", 0, 0, 0, 0);
        keys("nobody is there", "G110w.", 0, 0, 0, 0);
        // P can but pass; k must go to 4, at which P aims: the key is a PASS.
        keys("a PASS", "G330wk#.#.#..P", 0, 0, 1, 1);
        key("G330wk#.#.#..P", 3, 0, NONE);
        // k could go to 2 as well.
        keys("k has another way", "G330wk..#.#..P", 0, 0, 0, 0);
    }

    private static void twoKings() {
        // R takes 0, and the other k must go to 2; if R takes 3, the one on 0 takes R.
        keys("one, then the other", "G410wkR.k", 0, 0, 1, 1);
        key("G410wkR.k", 3, 0, 100);
        keys("each beside R", "G310wkRk", 0, 0, 0, 0);
        // If R goes off, k must go to 1.
        keys("the last one at once", "G410wkR..", 1, 1, 3, 3);
    }

    private static void theDeadInTheWay() {
        keys("it lies for one ply", "G311wRpk", 0, 0, 1, 1);
        key("G311wRpk", 3, 0, 1);
        keys("it lies for two", "G312wRpk", 0, 0, 0, 0);
        keys("it lies for ever", "G310wRpk", 0, 0, 0, 0);
        keys("one told by # lies for ever", "G311wR#k", 0, 0, 0, 0);
    }

    private static void refused() {
        StayWhereFell game = Check.lie("G310wRk.");
        int[] outside = {0, 5, -1, Integer.MIN_VALUE, Integer.MAX_VALUE};
        for (int n : outside) {
            CHECK.due("15: n " + n, game.wins(n), OUTSIDE);
            CHECK.due("16: n " + n, game.keys(n), OUTSIDE);
            CHECK.due("17: n " + n, game.keyAt(n, 0), OUTSIDE);
        }
        game.move(0, 1);
        CHECK.due("15: lost", game.wins(1), STATE);
        CHECK.due("16: lost", game.keys(1), STATE);
        CHECK.due("17: lost", game.keyAt(1, 0), STATE);
        CHECK.due("17: lost", game.keyAt(1, -1), STATE);
        CHECK.due("15: OUTSIDE ahead of STATE", game.wins(0), OUTSIDE);
        CHECK.due("16: OUTSIDE ahead of STATE", game.keys(5), OUTSIDE);
        CHECK.due("17: OUTSIDE ahead of STATE", game.keyAt(0, 0), OUTSIDE);
    }

    private static void odds(String text, int above, int below) {
        StayWhereFell game = Check.lie(text);
        CHECK.due("18: above, " + text, game.odds(true), above);
        CHECK.due("18: below, " + text, game.odds(false), below);
        CHECK.lies("18: nothing changed", game, text);
    }

    private static void odds() {
        odds("G110w.", 0, 1);
        odds("G310wRk.", 1, 1);
        odds("G310wR.k", 1, 2);
        odds("G330wR.k......", 1, 4);
        odds("G330wk.......R", 0, 1);
        // R on 4 aims at 1, 3, 5, 7; any k will do, the last one or not.
        odds("G330w.k.kR....", 1, 2);
        odds("G330w.k..R....", 1, 4);
        odds("G330w.k.kRk.k.", 1, 1);
        odds("G330w.k.rRk.k.", 3, 4);
        odds("G330w.K.kR....", 2, 7);
        odds("G310bRk.", 0, 1);
        odds("G310bKk.", 1, 2);
        StayWhereFell game = Check.lie("G310wRk.");
        game.move(0, 1);
        CHECK.due("18: lost", game.odds(true), STATE);
        CHECK.due("18: lost", game.odds(false), STATE);
    }
}
