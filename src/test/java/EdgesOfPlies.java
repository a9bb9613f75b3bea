/** Edges of promises 8 to 14: a test for each sentence that names one. */
final class EdgesOfPlies extends Edges {
    private static final int[][] ROOK_LINES = {{0, 1, 2, 3}, {3, 2, 1, 0}, {0, 4, 8, 12}, {12, 8, 4, 0},
        {15, 14, 13, 12}, {15, 11, 7, 3}};
    private static final int[][] BISHOP_LINES = {{0, 5, 10, 15}, {15, 10, 5, 0}, {3, 6, 9, 12}, {12, 9, 6, 3}};
    // A way of K over all cells of 4 by 4: each is next to the one ahead of it.
    private static final int[] WAY = {0, 1, 2, 3, 7, 6, 5, 4, 8, 9, 10, 11, 15, 14, 13, 12};

    // ---- 8: aims

    static void promise08_noSuchCellIsUnknown() {
        for (int cell : beyond(0, 15)) {
            still(Edges::amid, game -> game.aims(cell), UNKNOWN);
        }
        for (int cell : beyond(0, 5)) {
            due(Check.lie("G320wKKKKKK").aims(cell), UNKNOWN);
        }
    }

    static void promise08_whereNoManIsItIsNought() {
        due(Check.lie("G330wKKKK.KKKK").aims(4), 0);
        due(Check.lie("G330wKKKK#KKKK").aims(4), 0);
        due(Check.lie("G330bkkkk#kkkk").aims(4), 0);
    }

    static void promise08_onOneCellThereIsNothingToAimAt() {
        for (char man : MEN.toCharArray()) {
            due(alone(1, 1, man, 0).aims(0), 0);
        }
    }

    /** Each man on each cell of each size: nobody aims round an edge, nor where it stands. */
    static void promise08_nobodyAimsBeyondAnEdge() {
        for (int wide = 1; wide <= 4; wide++) {
            for (int high = 1; high <= 4; high++) {
                for (int cell = 0; cell < wide * high; cell++) {
                    for (char man : MEN.toCharArray()) {
                        due(alone(wide, high, man, cell).aims(cell), aimedAlone(wide, high, man, cell));
                    }
                }
            }
        }
    }

    private static int aimedAlone(int wide, int high, char man, int cell) {
        int aimed = 0;
        for (int row = 0; row < high; row++) {
            for (int column = 0; column < wide; column++) {
                if (aimsAlone(man, row - cell / wide, column - cell % wide)) {
                    aimed |= 1 << row * wide + column;
                }
            }
        }
        return aimed;
    }

    private static boolean aimsAlone(char man, int down, int across) {
        int most = Math.max(Math.abs(down), Math.abs(across));
        int least = Math.min(Math.abs(down), Math.abs(across));
        switch (man) {
            case 'P': return down == -1 && Math.abs(across) == 1;
            case 'p': return down == 1 && Math.abs(across) == 1;
            case 'K': case 'k': return most == 1;
            case 'N': case 'n': return most == 2 && least == 1;
            case 'R': case 'r': return most > 0 && least == 0;
            default: return most > 0 && least == most;
        }
    }

    /** On each line, for each that stands there, at each distance: as far as it, and no further. */
    static void promise08_asFarAsTheFirstThatIsNotEmpty() {
        for (char other : "Pp#Kk".toCharArray()) {
            for (char rook : "Rr".toCharArray()) {
                aimsAlong(ROOK_LINES, rook, other);
            }
            for (char bishop : "Bb".toCharArray()) {
                aimsAlong(BISHOP_LINES, bishop, other);
            }
        }
    }

    private static void aimsAlong(int[][] lines, char man, char other) {
        for (int[] line : lines) {
            int all = Check.cells(line[1], line[2], line[3]);
            int seen = 0;
            for (int far = 1; far <= 3; far++) {
                seen |= 1 << line[far];
                due(withTwo(man, line[0], other, line[far]).aims(line[0]) & all, seen);
            }
        }
    }

    private static StayWhereFell withTwo(char man, int cell, char other, int otherCell) {
        StringBuilder text = new StringBuilder(text(4, 4, "0", 'w', '.'));
        text.setCharAt(5 + cell, man);
        text.setCharAt(5 + otherCell, other);
        return Check.lie(text.toString());
    }

    static void promise08_stoppedOnAllSidesAtOnce() {
        due(Check.lie("G330w####R####").aims(4), Check.cells(1, 3, 5, 7));
        due(Check.lie("G330w####B####").aims(4), Check.cells(0, 2, 6, 8));
        due(Check.lie("G440w.....R....P.....").aims(5), Check.cells(1, 4, 6, 7, 9, 13));
        due(Check.lie("G440w...#.B..........").aims(5), Check.cells(0, 2, 8, 10, 15));
    }

    static void promise08_kingKnightAndPawnAimWhoeverIsThere() {
        for (char other : SIGNS.toCharArray()) {
            String full = text(4, 4, "0", 'w', other);
            due(Check.lie(full.substring(0, 10) + "K" + full.substring(11)).aims(5), aimedAlone(4, 4, 'K', 5));
            due(Check.lie(full.substring(0, 10) + "n" + full.substring(11)).aims(5), aimedAlone(4, 4, 'n', 5));
            due(Check.lie(full.substring(0, 10) + "P" + full.substring(11)).aims(5), aimedAlone(4, 4, 'P', 5));
            due(Check.lie(full.substring(0, 10) + "p" + full.substring(11)).aims(5), aimedAlone(4, 4, 'p', 5));
        }
    }

    static void promise08_aPawnAtItsEndAimsAtNothing() {
        for (int column = 0; column < 4; column++) {
            due(alone(4, 4, 'P', column).aims(column), 0);
            due(alone(4, 4, 'p', 12 + column).aims(12 + column), 0);
        }
    }

    static void promise08_inOneColumnAPawnAimsAtNothing() {
        due(alone(1, 4, 'P', 2).aims(2), 0);
        due(alone(1, 4, 'p', 1).aims(1), 0);
    }

    static void promise08_whoeverIsOn() {
        due(Check.lie("G210wKk").aims(0), 2);
        due(Check.lie("G210bKk").aims(0), 2);
        due(Check.lie("G210wKk").aims(1), 1);
        due(Check.lie("G210bKk").aims(1), 1);
    }

    static void promise08_nothingIsChanged() {
        still(Edges::amid, game -> game.aims(15), Check.cells(10, 11, 14));
    }

    // ---- 9: can

    static void promise09_noSuchCellIsUnknown() {
        for (int cell : beyond(0, 15)) {
            still(Edges::amid, game -> game.can(cell), UNKNOWN);
        }
        for (int cell : beyond(0, 2)) {
            due(Check.lie("G130bKKK").can(cell), UNKNOWN);
        }
    }

    static void promise09_whereNoManIsItIsNought() {
        due(Check.lie("G330wkkkk.KKKK").can(4), 0);
        due(Check.lie("G330wkkkk#KKKK").can(4), 0);
    }

    static void promise09_amongItsOwnOrTheDeadItCanNothing() {
        for (char man : MEN.toCharArray()) {
            char own = man < 'a' ? 'R' : 'r';
            String around = text(3, 3, "0", 'w', own);
            due(Check.lie(around.substring(0, 9) + man + around.substring(10)).can(4), 0);
            due(Check.lie("G330w####" + man + "####").can(4), 0);
        }
    }

    static void promise09_amongTheOthersItTakesThem() {
        for (char man : MEN.toCharArray()) {
            String around = text(4, 4, "0", 'w', man < 'a' ? 'k' : 'K');
            due(Check.lie(around.substring(0, 10) + man + around.substring(11)).can(5),
                aimedAlone(4, 4, man, 5) & ~stoppedAt5(man));
        }
    }

    /** Cells behind those next to cell 5, to which R, B do not come through. */
    private static int stoppedAt5(char man) {
        return "RrBb".indexOf(man) < 0 ? 0 : Check.cells(7, 13, 15);
    }

    static void promise09_nobodyGoesBeyondAnEdge() {
        for (int wide = 1; wide <= 4; wide++) {
            for (int high = 1; high <= 4; high++) {
                for (int cell = 0; cell < wide * high; cell++) {
                    for (char man : MEN.toCharArray()) {
                        due(alone(wide, high, man, cell).can(cell), goingAlone(wide, high, man, cell));
                    }
                }
            }
        }
    }

    private static int goingAlone(int wide, int high, char man, int cell) {
        if (man == 'P') {
            return cell < wide ? 0 : 1 << cell - wide;
        }
        if (man == 'p') {
            return cell + wide >= wide * high ? 0 : 1 << cell + wide;
        }
        return aimedAlone(wide, high, man, cell);
    }

    /** On each line, for each that stands there, at each distance: taken, if it is of the other side. */
    static void promise09_asFarAsTheFirstThatIsNotEmpty() {
        for (char other : "Pp#Kk".toCharArray()) {
            for (char rook : "Rr".toCharArray()) {
                canAlong(ROOK_LINES, rook, other);
            }
            for (char bishop : "Bb".toCharArray()) {
                canAlong(BISHOP_LINES, bishop, other);
            }
        }
    }

    private static void canAlong(int[][] lines, char man, char other) {
        boolean takes = other != '#' && man < 'a' != other < 'a';
        for (int[] line : lines) {
            int all = Check.cells(line[1], line[2], line[3]);
            int free = 0;
            for (int far = 1; far <= 3; far++) {
                int taken = takes ? 1 << line[far] : 0;
                due(withTwo(man, line[0], other, line[far]).can(line[0]) & all, free | taken);
                free |= 1 << line[far];
            }
        }
    }

    static void promise09_aPawnGoesRightAheadAloneAndIfThatIsEmpty() {
        due(Check.lie("G330w.......P.").can(7), Check.cells(4));
        due(Check.lie("G330b.p.......").can(1), Check.cells(4));
        for (char other : "#KRBNPkrbnp".toCharArray()) {
            due(Check.lie("G330w...." + other + "..P.").can(7), 0);
            due(Check.lie("G330w.p.." + other + "....").can(1), 0);
        }
    }

    static void promise09_aPawnTakesSlantwiseAlone() {
        for (char other : SIGNS.toCharArray()) {
            boolean white = "KRBNP".indexOf(other) >= 0;
            boolean black = "krbnp".indexOf(other) >= 0;
            due(Check.lie("G330w..." + other + "R" + other + ".P.").can(7), black ? Check.cells(3, 5) : 0);
            due(Check.lie("G330w.p." + other + "r" + other + "...").can(1), white ? Check.cells(3, 5) : 0);
        }
    }

    static void promise09_aPawnAtItsEndCanNothing() {
        due(Check.lie("G230wPr.r..").can(0), 0);
        due(Check.lie("G230w....Rp").can(5), 0);
        due(Check.lie("G230wrrPrrr").can(2), Check.cells(1));
        due(Check.lie("G430wP...r..R...p").can(0), 0);
        due(Check.lie("G430wP...r..R...p").can(11), 0);
    }

    static void promise09_aKnightPassesAll() {
        due(Check.lie("G330wN#####.k#").can(0), Check.cells(7));
        due(Check.lie("G320wNrr#r.").can(0), Check.cells(5));
    }

    static void promise09_whoeverIsOn() {
        due(Check.lie("G310wKk.").can(1), Check.cells(0, 2));
        due(Check.lie("G310bKk.").can(0), Check.cells(1));
        still(Edges::lost, game -> game.can(15), Check.cells(10, 11, 14));
    }

    static void promise09_nothingIsChanged() {
        still(Edges::amid, game -> game.can(15), Check.cells(10, 11, 14));
    }

    // ---- 10: plies

    static void promise10_whenASideHasLostItIsNought() {
        still(Edges::lost, StayWhereFell::plies, 0);
        StayWhereFell black = Check.lie("G330wrRk......");
        go(black, 102);
        due(black.plies(), 0);
    }

    static void promise10_whoCanButPassMakesOne() {
        due(new StayWhereFell().plies(), 1);
        due(Check.lie("G440w................").plies(), 1);
        due(Check.lie("G440w################").plies(), 1);
        due(Check.lie("G440wKKKKKKKKKKKKKKKK").plies(), 1);
        due(Check.lie("G440bKKKKKKKKKKKKKKKK").plies(), 1);
        due(Check.lie("G220wPP..").plies(), 1);
        due(Check.lie("G220b..pp").plies(), 1);
        due(Check.lie("G220b.R..").plies(), 1);
    }

    static void promise10_whoCanDoOneThingMakesOneToo() {
        StayWhereFell game = Check.lie("G120w.P");
        due(game.plies(), 1);
        due(game.pass(), STATE);
        due(Check.lie("G210wKk").plies(), 1);
    }

    static void promise10_passingIsNoneBesideOthers() {
        due(Check.lie("G120wK.").plies(), 1);
        due(Check.lie("G130w.K.").plies(), 2);
    }

    static void promise10_eachOfAllMenToEachCell() {
        String[] boards = {"G440wRRRR............", "G440wRBNK.....krbn...", "G440bNNNN....nnnnrrrr", "G440wKRBNPkrbnp.#KRBN",
            "G440w.B.B.....R.R....", "G440bkkkk....KKKK####", "G440wNNNNNNNN........", "G440wR.R..R.RR.R..R.R"};
        for (String board : boards) {
            StayWhereFell game = Check.lie(board);
            int men = game.count(board.charAt(4) == 'w' ? 5 : 6);
            int all = 0;
            for (int cell = 0; cell < 16; cell++) {
                all += (men >> cell & 1) * Integer.bitCount(game.can(cell));
            }
            due(game.plies(), all);
        }
    }

    static void promise10_nothingIsChanged() {
        still(Edges::amid, StayWhereFell::plies, 9);
    }

    // ---- 11: move

    static void promise11_noSuchCellIsUnknown() {
        for (int cell : beyond(0, 15)) {
            still(Edges::amid, game -> game.move(cell, 14), UNKNOWN);
            still(Edges::amid, game -> game.move(15, cell), UNKNOWN);
            due(amid().move(cell, cell), UNKNOWN);
        }
        for (int cell : beyond(0, 8)) {
            due(Check.lie("G330w....R....").move(4, cell), UNKNOWN);
            due(Check.lie("G330wRRRRRRRRR").move(cell, 4), UNKNOWN);
        }
    }

    static void promise11_unknownIsNamedAheadOfState() {
        due(amid().move(1, 16), UNKNOWN);
        due(amid().move(16, 1), UNKNOWN);
        due(lost().move(9, 16), UNKNOWN);
        due(lost().move(-1, 9), UNKNOWN);
    }

    static void promise11_whenASideHasLostItIsState() {
        still(Edges::lost, game -> game.move(9, 8), STATE);
        still(Edges::lost, game -> game.move(15, 14), STATE);
    }

    static void promise11_aManThatIsNotOnIsState() {
        still(Edges::amid, game -> game.move(9, 8), STATE);
        still(() -> Check.lie("G210wKk"), game -> game.move(1, 0), STATE);
        still(() -> Check.lie("G210bKk"), game -> game.move(0, 1), STATE);
    }

    static void promise11_whereNoManIsItIsState() {
        still(Edges::amid, game -> game.move(1, 2), STATE);
        still(Edges::amid, game -> game.move(5, 6), STATE);
    }

    static void promise11_whatItCanNotIsState() {
        // Where it is, onto its own, onto one that is DEAD, past men and past the DEAD, where it does not aim.
        int[] plies = {202, 209, 1515, 1500};
        for (int ply : plies) {
            still(Edges::amid, game -> game.move(ply / 100, ply % 100), STATE);
        }
        due(Check.lie("G330wKR.......").move(0, 1), STATE);
        due(Check.lie("G330wK#.......").move(0, 1), STATE);
        due(Check.lie("G330wR.k.#.R.P").move(0, 8), STATE);
        due(Check.lie("G330wRk.......").move(0, 2), STATE);
        due(Check.lie("G330wRK.......").move(0, 2), STATE);
        due(Check.lie("G330wR#.......").move(0, 2), STATE);
        due(Check.lie("G330wB...#....").move(0, 8), STATE);
        due(Check.lie("G330wN......#.").move(0, 7), STATE);
        due(Check.lie("G330w....k..P.").move(7, 4), STATE);
        due(Check.lie("G330w.......P.").move(7, 3), STATE);
        due(Check.lie("G330w.......P.").move(7, 1), STATE);
    }

    static void promise11_eachPlyThatCanBeMayBeAndNoOther() {
        for (int from = 0; from < 16; from++) {
            for (int to = 0; to < 16; to++) {
                StayWhereFell game = Check.lie("G440wKR.bN.#pP.rkB.n.");
                boolean may = (game.count(5) >> from & 1) == 1 && (game.can(from) >> to & 1) == 1;
                int sign = game.cell(to);
                due(game.move(from, to), may ? sign : STATE);
                due(game.count(8), may ? 1 : 0);
                due(game.count(4), may ? 1 : 0);
            }
        }
    }

    static void promise11_whatWasOnTheOtherCell() {
        due(Check.lie("G210wK.").move(0, 1), '.');
        for (char other : "krbnp".toCharArray()) {
            due(Check.lie("G210wK" + other).move(0, 1), other);
            due(Check.lie("G210b" + Character.toUpperCase(other) + "k").move(1, 0), Character.toUpperCase(other));
        }
    }

    static void promise11_whoGoesLeavesAnEmptyCell() {
        StayWhereFell game = Check.lie("G440wK..............k");
        go(game, 5);
        lies(game, "G440b.....K.........k");
        go(game, 1510);
        lies(game, "G440w.....K....k.....");
    }

    static void promise11_whoTakesStaysWhereItIs() {
        StayWhereFell game = Check.lie("G440wR..r............");
        due(game.move(0, 3), 'r');
        lies(game, "G440bR..#............");
        StayWhereFell pawn = Check.lie("G220wr..P");
        due(pawn.move(3, 0), 'r');
        lies(pawn, "G220b#..P");
        StayWhereFell knight = Check.lie("G320bN.#..n");
        due(knight.move(5, 0), 'N');
        lies(knight, "G320w#.#..n");
    }

    static void promise11_theLastKThatFellHasLost() {
        StayWhereFell game = Check.lie("G330wkR...k...");
        go(game, 100);
        due(game.count(9), NONE);
        go(game, 502);
        due(game.move(1, 2), 'k');
        due(game.count(9), 1);
        due(game.count(4), 1);
    }

    static void promise11_otherMenThatFallLoseNothing() {
        for (char other : "rbnp".toCharArray()) {
            StayWhereFell game = Check.lie("G310wR" + other + "k");
            go(game, 1);
            due(game.count(9), NONE);
        }
    }

    static void promise11_aSideWithNoKAtFirstDoesNotLose() {
        StayWhereFell game = Check.lie("G310wRr.");
        go(game, 1);
        due(game.count(9), NONE);
        due(game.plies(), 1);
    }

    static void promise11_aKMayGoWhereItIsTaken() {
        StayWhereFell game = Check.lie("G310wK.r");
        go(game, 1);
        due(game.move(2, 1), 'K');
        due(game.count(9), 0);
    }

    static void promise11_nobodyStandsOnTheDeadTillTheyAreGone() {
        StayWhereFell game = Check.lie("G311wKr.");
        go(game, 1, NONE);
        lies(game, "G311wK..");
        due(game.move(0, 1), '.');
        StayWhereFell two = Check.lie("G412wKr.k");
        go(two, 1);
        go(two, 302);
        due(two.move(0, 1), STATE);
        go(two, NONE);
        due(two.move(2, 1), '.');
    }

    static void promise11_whoGoesWhereOneIsGoneStaysThere() {
        for (int last = 1; last <= 3; last += 2) {
            StayWhereFell game = Check.lie("G31" + last + "wRp#");
            go(game, 1);
            for (int i = 0; i < last; i++) {
                go(game, NONE);
            }
            go(game, 1, NONE);
            lies(game, "G31" + last + "w.R#");
            go(game, 100, NONE, 1, NONE);
            lies(game, "G31" + last + "w.R#");
        }
    }

    static void promise11_aManGoesWhereOneFellOnlyThePlyAfter() {
        // By LAST 1 the DEAD one lies there yet when the very next ply is made.
        StayWhereFell game = Check.lie("G311wRpk");
        go(game, 1);
        due(game.move(2, 1), STATE);
        go(game, NONE);
        due(game.move(0, 2), 'k');
    }

    static void promise11_onlyTheRowTheBoardAndWhoIsOnChange() {
        StayWhereFell game = amid();
        go(game, 1514);
        due(game.count(8), 6);
        due(game.count(0), 21);
        due(game.undo(), 5);
        due(Seen.of(game).equals(Seen.of(amid())) ? 1 : 0, 1);
    }

    // ---- 12: pass

    static void promise12_whenASideHasLostItIsState() {
        still(Edges::lost, StayWhereFell::pass, STATE);
        StayWhereFell game = Check.lie("G310wRk.");
        go(game, 1);
        due(game.pass(), STATE);
    }

    static void promise12_whoCanGoOrTakeMayNot() {
        still(Edges::amid, StayWhereFell::pass, STATE);
        still(() -> Check.lie("G120w.P"), StayWhereFell::pass, STATE);
        still(() -> Check.lie("G210wKk"), StayWhereFell::pass, STATE);
        still(() -> Check.lie("G220wk..P"), StayWhereFell::pass, STATE);
        still(() -> Check.lie("G440b.......n.......#"), StayWhereFell::pass, STATE);
    }

    static void promise12_whoIsOnThen() {
        due(Check.lie("G110w.").pass(), 1);
        due(Check.lie("G110b.").pass(), 0);
        due(Check.lie("G220b.K..").pass(), 0);
    }

    static void promise12_whoeverElseCouldMakeAPly() {
        StayWhereFell game = Check.lie("G220wPk..");
        due(game.pass(), 1);
        due(game.pass(), STATE);
    }

    static void promise12_itIsAPlyOfTheRow() {
        StayWhereFell game = Check.lie("G110w.");
        for (int plies = 1; plies <= 18; plies++) {
            due(game.pass(), plies % 2);
            due(game.count(8), Math.min(plies, 16));
        }
    }

    static void promise12_byItTheDeadAreAPlyOlder() {
        StayWhereFell game = Check.lie("G312wRp.");
        go(game, 1);
        due(game.gone(1), 2);
        due(game.pass(), 0);
        due(game.gone(1), 1);
        due(game.pass(), 1);
        due(game.gone(1), STATE);
    }

    static void promise12_oneWhoTheDeadShutInPasses() {
        StayWhereFell game = Check.lie("G220wK###");
        due(game.pass(), 1);
        due(game.pass(), 0);
        due(game.pass(), 1);
    }

    // ---- 13: undo

    /** K goes along its way, and BLACK, who has nobody, passes: so many plies. */
    private static StayWhereFell walked(int plies) {
        StayWhereFell game = Check.lie("G440wK...............");
        walk(game, 0, plies);
        return game;
    }

    private static void walk(StayWhereFell game, int made, int plies) {
        for (int i = made; i < plies; i++) {
            go(game, i % 2 == 1 ? NONE : WAY[i / 2] * 100 + WAY[i / 2 + 1]);
        }
    }

    private static void walkedSoFar(StayWhereFell game, int plies) {
        due(game.count(5), 1 << WAY[(plies + 1) / 2]);
        due(game.count(4), plies % 2);
    }

    static void promise13_whenThereIsNoneItIsState() {
        still(StayWhereFell::new, StayWhereFell::undo, STATE);
        still(() -> Check.lie("G440wK..............k"), StayWhereFell::undo, STATE);
        StayWhereFell game = walked(1);
        due(game.undo(), 0);
        due(game.undo(), STATE);
        due(game.undo(), STATE);
        walkedSoFar(game, 0);
    }

    static void promise13_behindBoardItIsState() {
        StayWhereFell game = amid();
        due(game.board(), 16);
        due(game.undo(), STATE);
        lies(game, "G443wK..rp...R..nP..k");
    }

    static void promise13_behindAgainItIsState() {
        StayWhereFell game = amid();
        due(game.again(0), 6);
        due(game.undo(), STATE);
        lies(game, "G443bK..r#...R..nP..k");
    }

    static void promise13_theRowHoldsSixteenAtMost() {
        StayWhereFell game = walked(0);
        for (int plies = 1; plies <= 30; plies++) {
            walk(game, plies - 1, plies);
            due(game.count(8), Math.min(plies, 16));
        }
    }

    static void promise13_howManyAreLeft() {
        for (int plies = 0; plies <= 30; plies++) {
            StayWhereFell game = walked(plies);
            int least = Math.max(0, plies - 16);
            for (int left = plies - 1; left >= least; left--) {
                due(game.undo(), left - least);
                walkedSoFar(game, left);
            }
            due(game.undo(), STATE);
            walkedSoFar(game, least);
        }
    }

    static void promise13_ofSixteenNoneIsForgotten() {
        StayWhereFell game = walked(16);
        for (int left = 15; left >= 0; left--) {
            due(game.undo(), left);
        }
        lies(game, "G440wK...............");
    }

    static void promise13_ofSeventeenTheFirstIsForgotten() {
        StayWhereFell game = walked(17);
        for (int left = 15; left >= 0; left--) {
            due(game.undo(), left);
        }
        due(game.undo(), STATE);
        lies(game, "G440b.K..............");
    }

    static void promise13_afterUndoneOnesOthersCome() {
        StayWhereFell game = walked(20);
        for (int left = 15; left >= 10; left--) {
            due(game.undo(), left);
        }
        walkedSoFar(game, 14);
        walk(game, 14, 24);
        due(game.count(8), 16);
        for (int left = 23; left >= 8; left--) {
            due(game.undo(), left - 8);
            walkedSoFar(game, left);
        }
        due(game.undo(), STATE);
    }

    static void promise13_whoFellStandsAgain() {
        StayWhereFell game = Check.lie("G440wR..n...........k");
        go(game, 3);
        due(game.undo(), 0);
        lies(game, "G440wR..n...........k");
        due(game.gone(3), STATE);
        due(game.count(6), Check.cells(3, 15));
    }

    static void promise13_whoHasLostIsBackInTheGame() {
        StayWhereFell game = lost();
        due(game.undo(), 5);
        due(game.count(9), NONE);
        due(game.plies(), 9);
        due(game.move(2, 0), 'K');
        due(game.count(9), 0);
    }

    static void promise13_aPassIsUndoneToo() {
        StayWhereFell game = Check.lie("G110b.");
        go(game, NONE);
        due(game.undo(), 0);
        due(game.count(4), 1);
    }

    static void promise13_oneThatIsGoneLiesThereAgain() {
        StayWhereFell game = Check.lie("G311wRp#");
        go(game, 1, NONE, 1);
        lies(game, "G311b.R#");
        due(game.undo(), 2);
        due(game.undo(), 1);
        lies(game, "G311bR##");
        due(game.gone(1), 1);
        due(game.gone(2), 0);
    }

    static void promise13_nothingElseIsUndone() {
        StayWhereFell game = amid();
        due(game.undo(), 4);
        due(game.seed(0), 77);
        due(game.count(0), 21);
        due(game.again(1), 6);
        due(game.again(0), 6);
    }

    // ---- 14: judge

    private static StayWhereFell rookAndKing() {
        return Check.lie("G442wR..............k");
    }

    static void promise14_otherNumbersOfMovesAreOutside() {
        for (int n : beyond(1, 2)) {
            still(Edges::amid, game -> game.judge(n, 1514), OUTSIDE);
            due(rookAndKing().judge(n, 1), OUTSIDE);
            due(lost().judge(n, -1), OUTSIDE);
        }
    }

    static void promise14_aRowBelowNoughtIsOutside() {
        for (int row : new int[] {-1, -2, -9999, -10000, LEAST, LEAST + 1}) {
            still(Edges::amid, game -> game.judge(1, row), OUTSIDE);
            still(Edges::amid, game -> game.judge(2, row), OUTSIDE);
            due(lost().judge(1, row), OUTSIDE);
        }
    }

    static void promise14_ofOneMoveTheRowHasFourFigures() {
        due(rookAndKing().judge(1, 0), 0);
        due(rookAndKing().judge(1, 9999), 0);
        due(lost().judge(1, 9999), 0);
        for (int row : new int[] {10000, 10001, 99999999, 100000000, MOST}) {
            still(Edges::amid, game -> game.judge(1, row), OUTSIDE);
        }
    }

    static void promise14_ofTwoMovesTheRowHasEightFigures() {
        due(rookAndKing().judge(2, 0), 0);
        due(rookAndKing().judge(2, 9999), 0);
        due(rookAndKing().judge(2, 10000), 1);
        due(rookAndKing().judge(2, 19999), 1);
        due(rookAndKing().judge(2, 99999999), 0);
        for (int row : new int[] {100000000, 100000001, MOST}) {
            still(Edges::amid, game -> game.judge(2, row), OUTSIDE);
        }
    }

    static void promise14_allMayBe() {
        still(Edges::amid, game -> game.judge(1, 1514), NONE);
        still(Edges::amid, game -> game.judge(2, 15140908), NONE);
        due(rookAndKing().judge(1, 1), NONE);
        due(rookAndKing().judge(2, 11514), NONE);
        due(rookAndKing().judge(2, 121510), NONE);
    }

    static void promise14_theFirstThatMayNot() {
        still(Edges::amid, game -> game.judge(1, 1500), 0);
        still(Edges::amid, game -> game.judge(2, 15000908), 0);
        still(Edges::amid, game -> game.judge(2, 15140900), 1);
        due(rookAndKing().judge(2, 5), 0);
        due(rookAndKing().judge(2, 51514), 0);
        due(rookAndKing().judge(2, 50000), 0);
        due(rookAndKing().judge(2, 11500), 1);
    }

    static void promise14_theOneAndThenTheOtherSide() {
        due(rookAndKing().judge(1, 1514), 0);
        due(rookAndKing().judge(2, 15140001), 0);
        due(rookAndKing().judge(2, 10102), 1);
    }

    static void promise14_cellsThatThereAreNotMayNot() {
        for (int cell = 16; cell < 100; cell++) {
            due(rookAndKing().judge(1, cell), 0);
            due(rookAndKing().judge(1, cell * 100), 0);
            due(rookAndKing().judge(2, 11500 + cell), 1);
            due(rookAndKing().judge(2, 10000 + cell * 100 + 15), 1);
        }
        due(Check.lie("G210wR.").judge(1, 2), 0);
        due(Check.lie("G210wR.").judge(1, 1), NONE);
    }

    static void promise14_theSecondIsJudgedBehindTheFirst() {
        due(Check.lie("G310wR.k").judge(2, 10201), NONE);
        due(Check.lie("G310wR.k").judge(2, 10200), 1);
        due(Check.lie("G310wR.r").judge(2, 10200), 1);
        due(Check.lie("G310wR.r").judge(2, 20201), 1);
    }

    static void promise14_theDeadLieInBetweenAsLongAsTheyDo() {
        due(Check.lie("G411wRpk.").judge(2, 10201), 1);
        due(Check.lie("G411wRpk.").judge(2, 10203), NONE);
        // The DEAD one is gone behind the first of both.
        StayWhereFell game = Check.lie("G431wRp......k..K");
        go(game, 1);
        due(game.gone(1), 1);
        due(game.judge(2, 8090001), NONE);
        due(game.judge(1, 801), 0);
    }

    static void promise14_whenASideHasLostNoneMayBe() {
        still(Edges::lost, game -> game.judge(1, 908), 0);
        still(Edges::lost, game -> game.judge(1, 1514), 0);
        still(Edges::lost, game -> game.judge(2, 9080908), 0);
    }

    static void promise14_behindTheFallOfTheLastKNoneMayBe() {
        due(Check.lie("G320wRkr...").judge(2, 10205), 1);
        due(Check.lie("G320wRkrk..").judge(2, 10205), NONE);
    }

    static void promise14_aPassIsNoMove() {
        due(Check.lie("G110w.").judge(1, 0), 0);
        due(Check.lie("G220wP..k").judge(1, 0), 0);
        due(Check.lie("G220wP..k").judge(2, 302), 0);
    }
}
