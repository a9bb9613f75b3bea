/** Edges of promises 15 to 18: a test for each sentence that names one. */
final class EdgesOfLooking extends Edges {
    // k must go to 4, at which B aims from 6.
    private static final String BY_THREE = "G330wk#B#.....";

    /** What wins answers for n from 1 to 4. */
    private static void wins(String text, int one, int two, int three, int four) {
        StayWhereFell game = Check.lie(text);
        due(game.wins(1), one);
        due(game.wins(2), two);
        due(game.wins(3), three);
        due(game.wins(4), four);
    }

    private static void keys(String text, int one, int two, int three, int four) {
        StayWhereFell game = Check.lie(text);
        due(game.keys(1), one);
        due(game.keys(2), two);
        due(game.keys(3), three);
        due(game.keys(4), four);
    }

    // ---- 15: wins

    static void promise15_otherNumbersOfPliesAreOutside() {
        for (int n : beyond(1, 4)) {
            still(Edges::amid, game -> game.wins(n), OUTSIDE);
        }
    }

    static void promise15_whenASideHasLostItIsState() {
        for (int n = 1; n <= 4; n++) {
            int plies = n;
            still(Edges::lost, game -> game.wins(plies), STATE);
        }
    }

    static void promise15_outsideIsNamedAheadOfState() {
        for (int n : beyond(1, 4)) {
            due(lost().wins(n), OUTSIDE);
        }
    }

    static void promise15_byTheFirstPly() {
        wins("G310wRk.", 1, 1, 1, 1);
        wins("G310bKr.", 1, 1, 1, 1);
    }

    static void promise15_byTheThirdPlyAndNoSooner() {
        wins(BY_THREE, 0, 0, 1, 1);
        wins("G330bK#b#.....", 0, 0, 1, 1);
    }

    static void promise15_notByTheFourth() {
        wins("G440wK..............k", 0, 0, 0, 0);
        wins("G440wR...R..........k", 0, 0, 0, 0);
    }

    static void promise15_whateverTheOtherSideDoes() {
        // k can go to 2 as well, at which nobody aims.
        wins("G330wk..#.#..P", 0, 0, 0, 0);
        wins("G330wk#.#.#..P", 0, 0, 1, 1);
        // It can take who would take it.
        wins("G310wK.k", 0, 0, 0, 0);
    }

    static void promise15_theOtherSideMayHaveToPass() {
        wins("G440wk#..##.........N", 0, 0, 1, 1);
    }

    static void promise15_whoIsOnMayHaveToPass() {
        wins("G330wk#.#.#..P", 0, 0, 1, 1);
        wins("G110w.", 0, 0, 0, 0);
    }

    static void promise15_whereTheOtherSideHasNoKNobodyWins() {
        wins("G310wRr.", 0, 0, 0, 0);
        wins("G310wRK.", 0, 0, 0, 0);
        wins("G310bKrk", 1, 1, 1, 1);
    }

    static void promise15_itIsTheLastKThatMustFall() {
        wins("G410wkR.k", 0, 0, 1, 1);
        wins("G310wkRk", 0, 0, 0, 0);
        wins("G440wk......kR......k", 0, 0, 0, 0);
    }

    static void promise15_whoHasLostMeanwhileWinsNoMore() {
        wins("G440wk##K####..n....N", 0, 0, 0, 0);
        wins("G440wk##K####..nK...N", 0, 0, 1, 1);
        wins("G440wk##.####..n....N", 0, 0, 1, 1);
    }

    static void promise15_theDeadAreInTheWayAsLongAsTheyLie() {
        wins("G311wRpk", 0, 0, 1, 1);
        wins("G312wRpk", 0, 0, 0, 0);
        wins("G310wRpk", 0, 0, 0, 0);
        wins("G311wR#k", 0, 0, 0, 0);
    }

    static void promise15_nothingIsChanged() {
        for (int n = 1; n <= 4; n++) {
            int plies = n;
            still(Edges::amid, game -> game.wins(plies), 1);
            still(() -> Check.lie(BY_THREE), game -> game.wins(plies), plies < 3 ? 0 : 1);
        }
    }

    // ---- 16: keys

    static void promise16_otherNumbersOfPliesAreOutside() {
        for (int n : beyond(1, 4)) {
            still(Edges::amid, game -> game.keys(n), OUTSIDE);
        }
    }

    static void promise16_whenASideHasLostItIsState() {
        for (int n = 1; n <= 4; n++) {
            int plies = n;
            still(Edges::lost, game -> game.keys(plies), STATE);
        }
    }

    static void promise16_outsideIsNamedAheadOfState() {
        for (int n : beyond(1, 4)) {
            due(lost().keys(n), OUTSIDE);
        }
    }

    static void promise16_ifOneDoesNotWinThereAreNone() {
        keys("G440wK..............k", 0, 0, 0, 0);
        keys("G110w.", 0, 0, 0, 0);
        keys("G310wRr.", 0, 0, 0, 0);
    }

    static void promise16_thoseByWhichItFallsAtOnceAndLater() {
        keys("G310wRk.", 1, 1, 1, 1);
        // Who goes off leaves k but one cell to go to.
        keys("G410wkR..", 1, 1, 3, 3);
        keys("G330bb.r...r.K", 3, 3, 6, 6);
        keys("G440wk#..##.........N", 0, 0, 2, 2);
    }

    static void promise16_aPassIsAKey() {
        keys("G330wk#.#.#..P", 0, 0, 1, 1);
    }

    static void promise16_takingAnotherThanTheLastKIsNone() {
        keys("G410wkR.k", 0, 0, 1, 1);
        keys("G310wkRk", 0, 0, 0, 0);
    }

    static void promise16_nothingIsChanged() {
        for (int n = 1; n <= 4; n++) {
            int plies = n;
            still(Edges::amid, game -> game.keys(plies), amid().keys(plies));
            still(() -> Check.lie(BY_THREE), game -> game.keys(plies), plies < 3 ? 0 : 1);
        }
    }

    // ---- 17: keyAt

    private static void keyAt(String text, int n, int... want) {
        StayWhereFell game = Check.lie(text);
        due(game.keys(n), want.length);
        for (int i = 0; i < want.length; i++) {
            due(game.keyAt(n, i), want[i]);
        }
        due(game.keyAt(n, want.length), NONE);
    }

    static void promise17_otherNumbersOfPliesAreOutside() {
        for (int n : beyond(1, 4)) {
            still(Edges::amid, game -> game.keyAt(n, 0), OUTSIDE);
            due(amid().keyAt(n, -1), OUTSIDE);
        }
    }

    static void promise17_whenASideHasLostItIsState() {
        for (int n = 1; n <= 4; n++) {
            int plies = n;
            still(Edges::lost, game -> game.keyAt(plies, 0), STATE);
            due(lost().keyAt(plies, MOST), STATE);
            due(lost().keyAt(plies, -1), STATE);
        }
    }

    static void promise17_outsideIsNamedAheadOfState() {
        for (int n : beyond(1, 4)) {
            due(lost().keyAt(n, 0), OUTSIDE);
        }
    }

    static void promise17_thereAreNotSoMany() {
        for (int i : new int[] {1, 2, 3, 64, 65, 100, MOST}) {
            still(() -> Check.lie("G310wRk."), game -> game.keyAt(1, i), NONE);
            due(Check.lie(BY_THREE).keyAt(3, i), NONE);
            due(Check.lie("G110w.").keyAt(4, i), NONE);
        }
        due(Check.lie("G110w.").keyAt(4, 0), NONE);
        due(Check.lie(BY_THREE).keyAt(2, 0), NONE);
    }

    static void promise17_belowNoughtThereIsNone() {
        for (int i : new int[] {-1, -2, -64, LEAST, LEAST + 1}) {
            still(() -> Check.lie("G310wRk."), game -> game.keyAt(1, i), NONE);
        }
    }

    static void promise17_aPassIsNone() {
        keyAt("G330wk#.#.#..P", 3, NONE);
        keyAt("G330wk#.#.#..P", 4, NONE);
    }

    static void promise17_byTheCellFromWhichThenToWhich() {
        keyAt("G410wkR..", 1, 100);
        keyAt("G410wkR..", 4, 100, 102, 103);
        keyAt("G330bb.r...r.K", 2, 8, 208, 608);
        keyAt("G330bb.r...r.K", 3, 4, 8, 205, 208, 607, 608);
        keyAt("G440wk#..##.........N", 3, 1506, 1509);
    }

    static void promise17_aHundredTimesTheOneAndTheOther() {
        keyAt("G310wRk.", 1, 1);
        keyAt("G440w..............kR", 1, 1514);
        keyAt("G440wk...........R...", 1, 1200);
        keyAt("G440w...k........B...", 1, 1203);
        keyAt("G440bK..............b", 1, 1500);
        keyAt("G440bb..............K", 1, 15);
    }

    static void promise17_nothingIsChanged() {
        still(Edges::amid, game -> game.keyAt(1, 0), 200);
        still(Edges::amid, game -> game.keyAt(4, 3), amid().keyAt(4, 3));
    }

    // ---- 18: odds

    private static void odds(String text, int above, int below) {
        still(() -> Check.lie(text), game -> game.odds(true), above);
        still(() -> Check.lie(text), game -> game.odds(false), below);
    }

    static void promise18_whenASideHasLostItIsState() {
        still(Edges::lost, game -> game.odds(true), STATE);
        still(Edges::lost, game -> game.odds(false), STATE);
    }

    static void promise18_aPassIsOneByWhichNoneFalls() {
        odds("G110w.", 0, 1);
        odds("G220bK..K", 0, 1);
        odds("G220wPk..", 0, 1);
    }

    static void promise18_byNoneItIsNoughtToOne() {
        odds("G440wK..............k", 0, 1);
        odds("G330w....R....", 0, 1);
        odds("G330wK#######k", 0, 1);
    }

    static void promise18_byAllItIsOneToOne() {
        odds("G310wRk.", 1, 1);
        odds("G330w#k#kRk#k#", 1, 1);
    }

    static void promise18_inLeastTerms() {
        odds("G330w.k..R....", 1, 4);
        odds("G330w.k.kR....", 1, 2);
        odds("G330w.k.kRk...", 3, 4);
        odds("G330wkk..K....", 1, 4);
        odds("G330wkkk.K....", 3, 8);
        odds("G330wkkkkK.kk.", 3, 4);
        // By 3 of 9, and by 2 of 12.
        odds("G440wk..kR..k....R..k", 1, 3);
        odds("G440wk..KR.......R..k", 1, 6);
    }

    static void promise18_anyKOfTheOtherSideNotTheLastAlone() {
        odds("G410wkR.k", 2, 3);
        odds("G310wkRk", 1, 1);
    }

    static void promise18_anotherManThatFallsIsNone() {
        for (char other : "rbnp".toCharArray()) {
            odds("G310wR" + other + ".", 0, 1);
            odds("G330w." + other + ".kR....", 1, 4);
            odds("G410bK." + Character.toUpperCase(other) + "r", 0, 1);
        }
    }

    static void promise18_aKOfItsOwnIsNone() {
        odds("G330w.K.kR....", 2, 7);
        odds("G310wKR.", 0, 1);
    }

    static void promise18_whoIsOnCounts() {
        odds("G310wR.k", 1, 2);
        odds("G310bR.k", 0, 1);
    }

    static void promise18_nothingIsChanged() {
        still(Edges::amid, game -> game.odds(true), 1);
        still(Edges::amid, game -> game.odds(false), 9);
    }
}
