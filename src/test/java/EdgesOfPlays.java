import java.math.BigInteger;

/** Edges of promises 24 to 26: a test for each sentence that names one. */
final class EdgesOfPlays extends Edges {
    private static final BigInteger ALL = BigInteger.ONE.shiftLeft(64);

    // ---- 24: ways

    private static void ways(StayWhereFell game, int slot, int one, int two, int three) {
        due(game.ways(slot, 1), one);
        due(game.ways(slot, 2), two);
        due(game.ways(slot, 3), three);
    }

    static void promise24_noSuchSlotIsUnknown() {
        for (int slot : beyond(0, 1)) {
            still(Edges::amid, game -> game.ways(slot, 1), UNKNOWN);
            still(Edges::lost, game -> game.ways(slot, 1), UNKNOWN);
        }
    }

    static void promise24_unknownIsNamedAheadOfOutside() {
        for (int slot : beyond(0, 1)) {
            due(amid().ways(slot, 0), UNKNOWN);
            due(new StayWhereFell().ways(slot, 4), UNKNOWN);
        }
    }

    static void promise24_otherNumbersOfPliesAreOutside() {
        for (int n : beyond(1, 3)) {
            still(Edges::amid, game -> game.ways(0, n), OUTSIDE);
            still(Edges::lost, game -> game.ways(1, n), OUTSIDE);
        }
    }

    static void promise24_outsideIsNamedAheadOfState() {
        for (int n : beyond(1, 3)) {
            due(new StayWhereFell().ways(0, n), OUTSIDE);
            due(new StayWhereFell().ways(1, n), OUTSIDE);
        }
    }

    static void promise24_whereNothingIsKeptItIsState() {
        for (int n = 1; n <= 3; n++) {
            int plies = n;
            still(StayWhereFell::new, game -> game.ways(0, plies), STATE);
            still(StayWhereFell::new, game -> game.ways(1, plies), STATE);
        }
    }

    static void promise24_theOtherSlotAloneIsNotEnough() {
        StayWhereFell game = new StayWhereFell();
        game.keep(0);
        due(game.ways(1, 2), STATE);
        due(game.ways(0, 2), 1);
        StayWhereFell other = new StayWhereFell();
        other.keep(1);
        due(other.ways(0, 2), STATE);
        due(other.ways(1, 2), 1);
    }

    static void promise24_inNoneItIsNought() {
        // Who fell for ever does not stand again.
        StayWhereFell game = Check.lie("G410wR.pk");
        game.keep(0);
        go(game, 2);
        ways(game, 0, 0, 0, 0);
    }

    static void promise24_inOneTwoThreePlies() {
        StayWhereFell game = Check.lie("G220wK...");
        go(game, 1);
        game.keep(1);
        game.undo();
        ways(game, 1, 1, 0, 2);
        go(game, 3);
        ways(game, 1, 0, 1, 0);
    }

    static void promise24_aPassIsAPly() {
        StayWhereFell game = Check.lie("G110w.");
        game.keep(0);
        ways(game, 0, 0, 1, 0);
        go(game, NONE);
        ways(game, 0, 1, 0, 1);
    }

    static void promise24_rowsByOtherCellsAreOthers() {
        StayWhereFell game = Check.lie("G330w....R....");
        go(game, 405, NONE, 508);
        game.keep(0);
        due(game.undo(), 2);
        due(game.undo(), 1);
        due(game.undo(), 0);
        ways(game, 0, 0, 0, 2);
        StayWhereFell takers = Check.lie("G410wRp.R");
        go(takers, 1);
        takers.keep(0);
        takers.undo();
        ways(takers, 0, 2, 0, 0);
    }

    static void promise24_whoIsOnMustBeTheSame() {
        StayWhereFell game = Check.lie("G110w.");
        game.keep(0);
        go(game, NONE);
        game.keep(1);
        due(game.ways(0, 1), 1);
        due(game.ways(1, 1), 0);
        due(game.ways(0, 2), 0);
        due(game.ways(1, 2), 1);
    }

    static void promise24_theMenMustBeTheSame() {
        // K on 0, k on 1, BLACK on: now they are so, but WHITE is on; by three plies they come to stand the other
        // way round alone.
        StayWhereFell game = Check.lie("G220w.k.K");
        go(game, 300);
        game.keep(0);
        lies(game, "G220bKk..");
        game.undo();
        go(game, 302, 103, 200, 301);
        lies(game, "G220wKk..");
        ways(game, 0, 0, 0, 0);
    }

    static void promise24_theDeadMustBeTheSame() {
        StayWhereFell game = Check.lie("G411wRp.p");
        go(game, 1);
        game.keep(0);
        lies(game, "G411bR#.p");
        go(game, NONE);
        lies(game, "G411wR..p");
        // R could go off and come back, but the DEAD one is gone.
        ways(game, 0, 0, 0, 0);
    }

    static void promise24_theyMustLieAsLong() {
        StayWhereFell game = Check.lie("G414wRp.p");
        go(game, 1);
        game.keep(0);
        due(game.gone(1), 4);
        go(game, NONE);
        due(game.gone(1), 3);
        ways(game, 0, 0, 0, 0);
        game.again(0);
        go(game, NONE, NONE);
        game.keep(1);
        due(game.gone(1), 2);
        game.again(0);
        ways(game, 1, 0, 1, 0);
        go(game, NONE);
        ways(game, 1, 1, 0, 0);
    }

    static void promise24_byLastNoughtTheyLieAsLongWhenever() {
        // R takes at first, or takes and then, as it can but pass, passes.
        StayWhereFell game = Check.lie("G310wRp#");
        go(game, 1);
        game.keep(0);
        ways(game, 0, 0, 1, 0);
        game.undo();
        ways(game, 0, 1, 0, 1);
    }

    static void promise24_oneMayBeGoneByThePlyByWhichAnotherGoes() {
        StayWhereFell game = Check.lie("G421wRp..k...");
        go(game, 1, 405);
        lies(game, "G421wR....k..");
        game.keep(0);
        game.undo();
        lies(game, "G421bR#..k...");
        ways(game, 0, 1, 0, 0);
        game.undo();
        ways(game, 0, 0, 1, 0);
    }

    static void promise24_oneMayBeGoneByThePlyByWhichAnotherFalls() {
        StayWhereFell game = Check.lie("G421wRp..k..r");
        go(game, 1, 400);
        lies(game, "G421w#...k..r");
        game.keep(1);
        game.undo();
        ways(game, 1, 1, 0, 0);
    }

    static void promise24_aSideMayHaveLostThen() {
        StayWhereFell game = Check.lie("G310wRk.");
        go(game, 1);
        game.keep(0);
        game.undo();
        ways(game, 0, 1, 0, 0);
    }

    static void promise24_whenASideHasLostThereAreNoRows() {
        StayWhereFell game = Check.lie("G310wRk.");
        game.keep(1);
        go(game, 1);
        game.keep(0);
        ways(game, 0, 0, 0, 0);
        ways(game, 1, 0, 0, 0);
    }

    static void promise24_noRowGoesOnBehindTheFallOfTheLastK() {
        // By r's taking K the men would be as kept two plies later, if there were more plies.
        StayWhereFell game = Check.lie("G310bKrR");
        go(game, 100);
        due(game.count(9), 0);
        game.keep(0);
        game.undo();
        ways(game, 0, 1, 0, 0);
    }

    static void promise24_fromWhatIsKeptItself() {
        StayWhereFell game = Check.lie("G330wK.......k");
        game.keep(0);
        due(game.ways(0, 1), 0);
        due(game.ways(0, 2), 0);
        due(game.ways(0, 3), 0);
    }

    static void promise24_nothingIsChanged() {
        for (int n = 1; n <= 3; n++) {
            int plies = n;
            still(Edges::amid, game -> game.ways(0, plies), 0);
            still(Edges::amid, game -> game.ways(1, plies), 0);
        }
    }

    // ---- 25: seed

    static void promise25_atFirstItIsNought() {
        due(new StayWhereFell().seed(5), 0);
    }

    static void promise25_anyLongIsOne() {
        long[] seeds = {0, 1, -1, Long.MAX_VALUE, Long.MIN_VALUE, Long.MIN_VALUE + 1, 1L << 32, -1L << 32};
        StayWhereFell game = new StayWhereFell();
        long was = 0;
        for (long seed : seeds) {
            due(game.seed(seed), was);
            was = seed;
        }
        due(game.seed(0), was);
    }

    static void promise25_itStaysThroughAllButPlays() {
        StayWhereFell game = amid();
        game.wipe();
        write(game, "G110w.");
        game.board();
        go(game, NONE);
        game.undo();
        game.keep(0);
        game.again(0);
        game.ways(0, 2);
        game.wins(4);
        due(game.seed(1), 77);
    }

    static void promise25_nothingElseIsChanged() {
        still(Edges::amid, game -> game.seed(77), 77);
        StayWhereFell game = amid();
        due(game.seed(-5), 77);
        lies(game, "G443bK.r..#...R..P..k");
        due(game.seed(77), -5);
        due(Seen.of(game).equals(Seen.of(amid())) ? 1 : 0, 1);
    }

    // ---- 26: play

    /** THE SEED so many plies later, told by numbers of any length. */
    private static long later(long seed, int plies) {
        BigInteger x = BigInteger.valueOf(seed);
        for (int i = 0; i < plies; i++) {
            x = x.multiply(BigInteger.valueOf(TIMES)).add(BigInteger.valueOf(AND)).mod(ALL);
        }
        return x.longValue();
    }

    static void promise26_otherNumbersOfPliesAreOutside() {
        for (int m : beyond(1, 40)) {
            still(Edges::amid, game -> game.play(m), OUTSIDE);
            still(Edges::lost, game -> game.play(m), OUTSIDE);
        }
    }

    static void promise26_oneToFortyPlies() {
        for (int m = 1; m <= 40; m++) {
            StayWhereFell game = Check.lie("G110w.");
            game.seed(m);
            due(game.play(m), 0);
            due(game.seed(0), later(m, m));
        }
    }

    static void promise26_theSeedIsNoughtAtFirst() {
        StayWhereFell game = new StayWhereFell();
        due(game.play(1), 0);
        due(game.seed(0), AND);
    }

    static void promise26_theSeedWraps() {
        long[] seeds = {0, 1, -1, Long.MAX_VALUE, Long.MIN_VALUE, 1L << 62, 0x123456789ABCDEFL};
        for (long seed : seeds) {
            StayWhereFell game = Check.lie("G330wK.......k");
            game.seed(seed);
            game.play(1);
            due(game.seed(0), later(seed, 1));
        }
    }

    static void promise26_theSeedGoesOnFromPlayToPlay() {
        StayWhereFell game = Check.lie("G110w.");
        game.seed(9);
        game.play(3);
        game.play(4);
        due(game.seed(0), later(9, 7));
    }

    static void promise26_tillOneSideHasLost() {
        StayWhereFell game = Check.lie("G210wRk");
        for (int m = 1; m <= 40; m++) {
            game.seed(m);
            due(game.play(m), 1);
            due(game.seed(0), later(m, 1));
        }
        // k must go next to K; then one of them takes the other, as it can do nothing else.
        StayWhereFell second = Check.lie("G310bK.k");
        second.seed(4);
        due(second.play(40), 1);
        due(second.seed(0), later(4, 2));
    }

    static void promise26_whenASideHasLostThereAreNone() {
        for (int m : new int[] {1, 2, 40}) {
            still(Edges::lost, game -> game.play(m), 4);
        }
    }

    /** The seeds are made so that their next ones have the upper 31 bits that are told. */
    private static void whichTakes(String text, int which) {
        StayWhereFell game = Check.lie(text);
        int plies = game.plies();
        int men = Integer.bitCount(game.count(5) | game.count(6));
        long most = (1L << 31) - 1;
        long[] uppers = {0, 1, 2, plies - 1, plies, plies + 1, most, most - 1, most - 2, most - 3, 1L << 30};
        for (long upper : uppers) {
            for (long lower : new long[] {0, (1L << 33) - 1, 1L << 32}) {
                game.seed(seedFor(upper, lower));
                due(game.play(1), upper % plies == which ? men - 1 : men);
                due(game.seed(0), upper << 33 | lower);
            }
        }
    }

    static void promise26_theUpperBitsByHowManyThereAreWhatIsLeft() {
        // R to 1 takes, to 3 and 6 it goes.
        whichTakes("G330wRp#.##.##", 0);
        // B goes to 0 and to 6; to 2 it takes.
        whichTakes("G330w.#p#B#..#", 1);
    }

    static void promise26_byTheCellFromWhich() {
        whichTakes("G430wKp..####..R.", 0);
        whichTakes("G430wK...####.pR.", 1);
        whichTakes("G430w##R.####.pK.", 1);
    }

    static void promise26_thenByTheCellToWhich() {
        whichTakes("G440w....#R.#.p......", 2);
        whichTakes("G440w....#Rp#........", 1);
        whichTakes("G440w.p..#R.#........", 0);
        whichTakes("G440w....#R.#.....p..", 3);
    }

    static void promise26_ofOnePlyItIsThatOne() {
        whichTakes("G210wKp", 0);
        StayWhereFell game = Check.lie("G220wPP..");
        for (long upper : new long[] {0, 1, 2, (1L << 31) - 1}) {
            game.seed(seedFor(upper, 0));
            due(game.play(1), 2);
            due(game.seed(0), upper << 33);
        }
    }

    static void promise26_howManyMenThereAreInTheEnd() {
        due(new StayWhereFell().play(40), 0);
        due(Check.lie("G440wKKKKKKKKKKKKKKKK").play(40), 16);
        due(Check.lie("G440bkkkkkkkkkkkkkkkk").play(40), 16);
        due(Check.lie("G440w################").play(40), 0);
        due(Check.lie("G210wRr").play(40), 1);
    }

    static void promise26_theDeadAreGoneInItToo() {
        // R takes p, k passes; when p is gone R goes to 1, or it takes k.
        for (int seed = 0; seed < 20; seed++) {
            StayWhereFell game = Check.lie("G311wRpk");
            game.seed(seed);
            due(game.play(2), 2);
            game.seed(seed);
            due(game.play(3), (later(seed, 3) >>> 33) % 2 == 0 ? 2 : 1);
        }
    }

    static void promise26_nothingChangesButTheSeed() {
        for (int m : new int[] {1, 2, 7, 40}) {
            still(Edges::amid, game -> {
                game.play(m);
                long seed = game.seed(77);
                return seed == 77 ? 1 : 0;
            }, 0);
        }
    }
}
