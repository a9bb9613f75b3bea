/** Edges of promises 19 to 23: a test for each sentence that names one. */
final class EdgesOfParts extends Edges {
    /** How many parts, and of which one each cell is. */
    private static void parts(String text, int parts, int... of) {
        StayWhereFell game = Check.lie(text);
        due(game.parts(), parts);
        for (int cell = 0; cell < of.length; cell++) {
            due(game.part(cell), of[cell]);
        }
    }

    // ---- 19: parts

    static void promise19_whereAllAreDeadThereIsNone() {
        for (int wide = 1; wide <= 4; wide++) {
            for (int high = 1; high <= 4; high++) {
                due(Check.lie(text(wide, high, "0", 'w', '#')).parts(), 0);
            }
        }
    }

    static void promise19_whereNobodyIsDeadThereIsOne() {
        for (int wide = 1; wide <= 4; wide++) {
            for (int high = 1; high <= 4; high++) {
                due(Check.lie(text(wide, high, "0", 'w', '.')).parts(), 1);
                due(Check.lie(text(wide, high, "0", 'w', 'k')).parts(), 1);
            }
        }
    }

    static void promise19_oneCellIsAPart() {
        for (int cell = 0; cell < 16; cell++) {
            StringBuilder text = new StringBuilder(text(4, 4, "0", 'w', '#'));
            text.setCharAt(5 + cell, '.');
            due(Check.lie(text.toString()).parts(), 1);
            due(Check.lie(text.toString()).part(cell), 0);
        }
    }

    static void promise19_ofFourByFourThereAreFourAtMost() {
        parts("G440w.#.#####.#.#####", 4);
        parts("G440w.##.########.##.", 4);
        parts("G330w.#.###.#.", 4);
    }

    static void promise19_eightWays() {
        parts("G220w.##.", 1);
        parts("G220w#..#", 1);
        parts("G330w.###.###.", 1);
        parts("G330w##.#.#.##", 1);
        parts("G330w.#.#.#.#.", 1);
    }

    static void promise19_notRoundAnEdge() {
        parts("G420w###..###", 2, NONE, NONE, NONE, 0, 1, NONE, NONE, NONE);
        parts("G320w##..##", 2, NONE, NONE, 0, 1, NONE, NONE);
        parts("G430w###.####.###", 2);
        parts("G330w##.###.##", 2);
        parts("G240w.#####.#", 2);
    }

    static void promise19_nextToItNotOneOff() {
        parts("G310w.#.", 2, 0, NONE, 1);
        parts("G130w.#.", 2, 0, NONE, 1);
        parts("G330w.#######.", 2);
        parts("G230w.####.", 2);
    }

    static void promise19_menDoNotCut() {
        parts("G310w.K.", 1);
        parts("G310wkKr", 1);
    }

    static void promise19_cutByOneThatFellTillItIsGone() {
        StayWhereFell game = Check.lie("G311wRp.");
        due(game.parts(), 1);
        go(game, 1);
        due(game.parts(), 2);
        go(game, NONE);
        due(game.parts(), 1);
    }

    static void promise19_nothingIsChanged() {
        still(Edges::amid, StayWhereFell::parts, 1);
        still(Edges::lost, StayWhereFell::parts, 1);
    }

    // ---- 20: part

    static void promise20_noSuchCellIsUnknown() {
        for (int cell : beyond(0, 15)) {
            still(Edges::amid, game -> game.part(cell), UNKNOWN);
        }
        for (int cell : beyond(0, 3)) {
            due(Check.lie("G220w####").part(cell), UNKNOWN);
        }
    }

    static void promise20_whereOneIsDeadItIsNone() {
        still(Edges::amid, game -> game.part(5), NONE);
        due(Check.lie("G110w#").part(0), NONE);
        due(Check.lie("G440w...............#").part(15), NONE);
    }

    static void promise20_numberedFromNoughtByTheirLeastCells() {
        parts("G440w.#.#####.#.#####", 4, 0, NONE, 1, NONE, NONE, NONE, NONE, NONE, 2, NONE, 3);
        parts("G410w#.#.", 2, NONE, 0, NONE, 1);
        // The part of cell 2 is reached from cell 1 only by a long way; its least cell is 0.
        parts("G430w.#.#.#.#.##.", 2, 0, NONE, 1, NONE, 0, NONE, 1, NONE, 0, NONE, NONE, 1);
        parts("G440w#..#####.##.#..#", 2, NONE, 0, 0, NONE, NONE, NONE, NONE, NONE, 1, NONE, NONE, 1, NONE, 1, 1, NONE);
    }

    static void promise20_theLastCell() {
        parts("G440w.#############..", 2, 0);
        due(Check.lie("G440w.#############.#").part(14), 1);
        due(Check.lie("G440w.##############.").part(15), 1);
    }

    static void promise20_whereMenAreToo() {
        parts("G310wK#k", 2, 0, NONE, 1);
    }

    static void promise20_byOneThatFellTillItIsGone() {
        StayWhereFell game = Check.lie("G311wRp.");
        go(game, 1);
        due(game.part(1), NONE);
        due(game.part(2), 1);
        go(game, NONE);
        due(game.part(1), 0);
        due(game.part(2), 0);
    }

    static void promise20_nothingIsChanged() {
        still(Edges::amid, game -> game.part(15), 0);
    }

    // ---- 21: comes

    static void promise21_noSuchCellIsUnknown() {
        for (int cell : beyond(0, 15)) {
            still(Edges::amid, game -> game.comes(cell), UNKNOWN);
        }
        for (int cell : beyond(0, 1)) {
            due(Check.lie("G120wKK").comes(cell), UNKNOWN);
        }
    }

    static void promise21_whereNoManIsItIsNought() {
        due(Check.lie("G330wKKKK.KKKK").comes(4), 0);
        due(Check.lie("G330wKKKK#KKKK").comes(4), 0);
        still(Edges::amid, game -> game.comes(5), 0);
    }

    static void promise21_whereItIsAsWell() {
        for (char man : MEN.toCharArray()) {
            due(alone(1, 1, man, 0).comes(0), 1);
            due(Check.lie("G330w####" + man + "####").comes(4), Check.cells(4));
        }
        due(alone(4, 4, 'P', 2).comes(2), Check.cells(2));
        due(alone(4, 4, 'p', 13).comes(13), Check.cells(13));
        due(alone(3, 3, 'N', 4).comes(4), Check.cells(4));
    }

    /** Each man on each cell of each size, nobody else there. */
    static void promise21_onAndOnAndNotBeyondAnEdge() {
        for (int wide = 1; wide <= 4; wide++) {
            for (int high = 1; high <= 4; high++) {
                for (int cell = 0; cell < wide * high; cell++) {
                    for (char man : MEN.toCharArray()) {
                        StayWhereFell game = alone(wide, high, man, cell);
                        due(game.comes(cell), byGoing(wide, high, man, cell));
                    }
                }
            }
        }
    }

    /** By can alone, from cell to cell, until no more cells come to it. */
    private static int byGoing(int wide, int high, char man, int cell) {
        int come = 1 << cell;
        for (int round = 0; round < 16; round++) {
            for (int here = 0; here < wide * high; here++) {
                if ((come >> here & 1) == 1) {
                    come |= alone(wide, high, man, here).can(here);
                }
            }
        }
        return come;
    }

    static void promise21_asIfNobodyElseWereThere() {
        due(Check.lie("G410wRrRr").comes(0), 15);
        due(Check.lie("G220wKRRR").comes(0), 15);
        due(Check.lie("G220wrr.P").comes(3), Check.cells(1, 3));
        due(Check.lie("G240bp.R.k.n.").comes(0), Check.cells(0, 2, 4, 6));
        due(Check.lie("G330wBkkkkkkkk").comes(0), Check.cells(0, 2, 4, 6, 8));
    }

    static void promise21_theDeadAreInTheWay() {
        due(Check.lie("G410wR.#.").comes(0), Check.cells(0, 1));
        due(Check.lie("G330wB...#....").comes(0), Check.cells(0));
        due(Check.lie("G330wK..###...").comes(0), Check.cells(0, 1, 2));
        due(Check.lie("G140w.#.P").comes(3), Check.cells(2, 3));
        due(Check.lie("G140wp.#.").comes(0), Check.cells(0, 1));
        due(Check.lie("G330wN....#.#.").comes(0), Check.cells(0));
    }

    static void promise21_aKnightPassesTheDead() {
        due(Check.lie("G330wN####....").comes(0), Check.cells(0, 5, 6, 7));
    }

    static void promise21_asIfTheDeadLayForEver() {
        StayWhereFell game = Check.lie("G311wRpk");
        due(game.comes(0), 7);
        go(game, 1);
        due(game.gone(1), 1);
        due(game.comes(0), 1);
        due(game.comes(2), 4);
        go(game, NONE);
        due(game.comes(0), 7);
    }

    static void promise21_aPawnComesByGoingAndNotByTaking() {
        due(Check.lie("G330wrrr...P..").comes(6), Check.cells(0, 3, 6));
        due(Check.lie("G330wp..RRRRRR").comes(0), Check.cells(0, 3, 6));
    }

    static void promise21_nothingIsChanged() {
        still(Edges::amid, game -> game.comes(12), Check.cells(0, 4, 8, 12));
        still(Edges::lost, game -> game.comes(12), Check.cells(4, 8, 12));
    }

    // ---- 22: comesAt

    static void promise22_noSuchCellIsUnknown() {
        for (int cell : beyond(0, 15)) {
            still(Edges::amid, game -> game.comesAt(cell, 0), UNKNOWN);
            still(Edges::amid, game -> game.comesAt(0, cell), UNKNOWN);
        }
        for (int cell : beyond(0, 1)) {
            due(Check.lie("G210wKk").comesAt(0, cell), UNKNOWN);
            due(Check.lie("G210wKk").comesAt(cell, 0), UNKNOWN);
        }
    }

    static void promise22_unknownIsNamedAheadOfState() {
        due(amid().comesAt(5, 16), UNKNOWN);
        due(amid().comesAt(16, 5), UNKNOWN);
        due(amid().comesAt(-1, 16), UNKNOWN);
    }

    static void promise22_menOfOneSideAreState() {
        still(Edges::amid, game -> game.comesAt(9, 12), STATE);
        still(Edges::amid, game -> game.comesAt(2, 15), STATE);
        still(Edges::amid, game -> game.comesAt(9, 9), STATE);
    }

    static void promise22_whereNoManIsItIsState() {
        int[] none = {1, 5};
        for (int cell : none) {
            still(Edges::amid, game -> game.comesAt(cell, 9), STATE);
            still(Edges::amid, game -> game.comesAt(9, cell), STATE);
            still(Edges::amid, game -> game.comesAt(2, cell), STATE);
            still(Edges::amid, game -> game.comesAt(cell, cell), STATE);
        }
    }

    private static void comesAt(String text, int cell, int other, int want) {
        due(Check.lie(text).comesAt(cell, other), want);
    }

    static void promise22_fromWhereItIsAtWhereThatOneIs() {
        comesAt("G210wKk", 0, 1, 1);
        comesAt("G210wKk", 1, 0, 1);
        comesAt("G220wk##P", 3, 0, 1);
        comesAt("G220wk##P", 0, 3, 1);
        comesAt("G230wN####k", 0, 5, 1);
        comesAt("G230wN####k", 5, 0, 0);
    }

    static void promise22_fromWhereItComes() {
        comesAt("G330wKP#.#...k", 0, 8, 1);
        comesAt("G240wk.####.P", 7, 0, 0);
        comesAt("G240wk....#.P", 7, 0, 1);
        comesAt("G330w##n#N####", 4, 2, 0);
    }

    static void promise22_atWhereThatOneComes() {
        // P stays where it is; k comes to where P aims, or not.
        comesAt("G230w.k.#.P", 5, 1, 1);
        comesAt("G330w...#k#P##", 6, 4, 1);
        comesAt("G330w.#.###Pk#", 6, 7, 0);
        // p goes down one column, and R shut in on the next aims along the row.
        comesAt("G230wp..R##", 3, 0, 1);
        comesAt("G330wp#.#R#.#.", 4, 0, 0);
    }

    static void promise22_menInBetweenAreNobody() {
        comesAt("G410wRPpr", 0, 3, 1);
        comesAt("G410wRPpr", 3, 0, 1);
        comesAt("G330wB...P...r", 0, 8, 1);
    }

    static void promise22_asFarAsNoDeadIsBetween() {
        comesAt("G410wR#.r", 0, 3, 0);
        comesAt("G410wR.#r", 0, 3, 0);
        comesAt("G410wR..r", 0, 3, 1);
        comesAt("G330wB...#...r", 0, 8, 0);
        comesAt("G330wB.......r", 0, 8, 1);
    }

    static void promise22_asIfTheDeadLayForEver() {
        StayWhereFell game = Check.lie("G311wRpk");
        due(game.comesAt(0, 2), 1);
        go(game, 1);
        due(game.comesAt(0, 2), 0);
        due(game.comesAt(2, 0), 0);
        go(game, NONE);
        due(game.comesAt(0, 2), 1);
        due(game.comesAt(2, 0), 1);
    }

    static void promise22_aBishopComesAtOneColourAlone() {
        comesAt("G220wBk##", 0, 1, 0);
        comesAt("G220wBk#.", 0, 1, 1);
        comesAt("G440bB..b............", 0, 3, 0);
        comesAt("G440bB.b.............", 0, 2, 1);
    }

    static void promise22_pawnsThatPassEachOther() {
        comesAt("G240wp......P", 7, 0, 1);
        comesAt("G240wp......P", 0, 7, 1);
        comesAt("G240wP......p", 0, 7, 0);
        comesAt("G240w.p.....P", 7, 1, 0);
        comesAt("G240w.p.....P", 1, 7, 0);
    }

    static void promise22_nothingIsChanged() {
        still(Edges::amid, game -> game.comesAt(9, 15), 1);
        still(Edges::lost, game -> game.comesAt(15, 9), 1);
        still(() -> Check.lie("G310wK#k"), game -> game.comesAt(0, 2), 0);
    }

    // ---- 23: shut

    private static void shut(String text, int want) {
        due(Check.lie(text).shut(), want);
    }

    static void promise23_whereNobodyIsItIsShut() {
        shut("G110w.", 1);
        shut("G440w................", 1);
        shut("G440w################", 1);
    }

    static void promise23_whereOneSideAloneIsItIsShut() {
        shut("G440wKRBNPKRBNPKRBNPK", 1);
        shut("G440wkrbnpkrbnpkrbnpk", 1);
        shut("G110bk", 1);
    }

    static void promise23_oneWhoCanComeAtAnotherIsEnough() {
        // WHITE alone can, BLACK alone can, both can.
        shut("G230wN####k", 0);
        shut("G230wK####n", 0);
        shut("G230bn####K", 0);
        shut("G210wKk", 0);
        // Of many, the last one alone.
        shut("G440wPPPP......##..#k", 1);
        shut("G440wBPPP......##..#k", 1);
        shut("G440wNPPP......##..#k", 0);
        shut("G440wKKKK####...bb..N", 0);
        shut("G440wkkkk####...BB..n", 0);
    }

    static void promise23_cutOffItIsShut() {
        shut("G310wK#k", 1);
        shut("G410wRR#r", 1);
        shut("G330wKKR###rrk", 1);
        shut("G330wKKR##.rrk", 0);
        shut("G240w.p.....P", 1);
        shut("G240wp......P", 0);
    }

    static void promise23_asIfTheDeadLayForEver() {
        StayWhereFell game = Check.lie("G311wRpk");
        due(game.shut(), 0);
        go(game, 1);
        due(game.shut(), 1);
        go(game, NONE);
        due(game.shut(), 0);
    }

    static void promise23_nothingIsChanged() {
        still(Edges::amid, StayWhereFell::shut, 0);
        still(Edges::lost, StayWhereFell::shut, 0);
        still(() -> Check.lie("G310wK#k"), StayWhereFell::shut, 1);
    }
}
