/** Edges of promises 27 to 29: a test for each sentence that names one. */
final class EdgesOfSlots extends Edges {
    private static void sameAsAmid(StayWhereFell game) {
        due(Seen.of(game).equals(Seen.of(amid())) ? 1 : 0, 1);
    }

    // ---- 27: keep

    static void promise27_noSuchSlotIsUnknown() {
        for (int slot : beyond(0, 1)) {
            still(Edges::amid, game -> game.keep(slot), UNKNOWN);
            still(Edges::lost, game -> game.keep(slot), UNKNOWN);
            still(StayWhereFell::new, game -> game.keep(slot), UNKNOWN);
        }
    }

    static void promise27_howManyMenThereAre() {
        due(new StayWhereFell().keep(0), 0);
        due(Check.lie("G440w################").keep(1), 0);
        due(Check.lie("G440wKRBNPkrbnpKRBNPk").keep(0), 16);
        due(Check.lie("G220wK#.k").keep(1), 2);
        due(amid().keep(0), 5);
        due(lost().keep(0), 4);
    }

    static void promise27_eachSlotKeepsItsOwn() {
        StayWhereFell game = Check.lie("G310wK.k");
        due(game.keep(0), 2);
        go(game, 1);
        due(game.keep(1), 2);
        go(game, 201);
        due(game.again(0), 2);
        lies(game, "G310wK.k");
        due(game.again(1), 2);
        lies(game, "G310b.Kk");
    }

    static void promise27_whatWasKeptBeforeIsKeptNoMore() {
        StayWhereFell game = amid();
        due(game.keep(0), 5);
        go(game, 1514);
        due(game.again(0), 5);
        lies(game, "G443bK.r..#...R..P..k");
        due(game.gone(5), 3);
        due(game.again(1), 6);
    }

    static void promise27_nothingOfTheGameChanges() {
        StayWhereFell game = amid();
        due(game.keep(1), 5);
        lies(game, "G443bK.r..#...R..P..k");
        due(game.count(8), 5);
        due(game.count(0), 21);
        due(game.undo(), 4);
        due(game.seed(0), 77);
    }

    static void promise27_whatIsKeptStaysAsItWasThen() {
        StayWhereFell game = Check.lie("G310wK.k");
        game.keep(0);
        go(game, 1, 201);
        game.undo();
        game.undo();
        go(game, 1);
        due(game.again(0), 2);
        lies(game, "G310wK.k");
    }

    static void promise27_whenASideHasLostTheyAreKeptToo() {
        StayWhereFell game = lost();
        due(game.keep(1), 4);
        due(game.again(0), 6);
        due(game.count(9), NONE);
        due(game.again(1), 4);
        due(game.count(9), 0);
    }

    // ---- 28: again

    static void promise28_noSuchSlotIsUnknown() {
        for (int slot : beyond(0, 1)) {
            still(Edges::amid, game -> game.again(slot), UNKNOWN);
            still(Edges::lost, game -> game.again(slot), UNKNOWN);
            still(StayWhereFell::new, game -> game.again(slot), UNKNOWN);
        }
    }

    static void promise28_whereNoneWereKeptItIsState() {
        for (int slot = 0; slot < 2; slot++) {
            int empty = slot;
            still(StayWhereFell::new, game -> game.again(empty), STATE);
            still(() -> rowOfTwoWithOnlyKept(1 - empty), game -> game.again(empty), STATE);
        }
    }

    private static StayWhereFell rowOfTwoWithOnlyKept(int slot) {
        StayWhereFell game = Check.lie("G330wK.......k");
        go(game, 1);
        game.keep(slot);
        go(game, 805);
        return game;
    }

    static void promise28_whatWasKeptAheadOfANewBoardIsGone() {
        for (int slot = 0; slot < 2; slot++) {
            StayWhereFell game = amid();
            due(game.board(), 16);
            due(game.again(slot), STATE);
            lies(game, "G443wK..rp...R..nP..k");
        }
    }

    static void promise28_aRefusedBoardLeavesWhatWasKept() {
        StayWhereFell game = lost();
        due(game.board(), STATE);
        due(game.again(0), 6);
        lies(game, "G443bK..r#...R..nP..k");
    }

    static void promise28_howManyMenThereAre() {
        StayWhereFell game = Check.lie("G440wKRBNPkrbnpKRBNPk");
        game.keep(0);
        due(game.again(0), 16);
        StayWhereFell none = Check.lie("G440w################");
        none.keep(1);
        due(none.again(1), 0);
        StayWhereFell fell = Check.lie("G310wRp.");
        fell.keep(0);
        go(fell, 1);
        fell.keep(1);
        due(fell.again(0), 2);
        due(fell.again(1), 1);
    }

    static void promise28_allCellsAndWhoIsOn() {
        StayWhereFell game = amid();
        due(game.again(0), 6);
        lies(game, "G443bK..r#...R..nP..k");
        due(game.again(1), 6);
        lies(game, "G443bK.r.#....R.nP..k");
    }

    static void promise28_howLongTheDeadLie() {
        StayWhereFell game = amid();
        due(game.again(0), 6);
        due(game.gone(4), 3);
        due(game.again(1), 6);
        due(game.gone(4), 1);
        go(game, 1514);
        due(game.gone(4), STATE);
    }

    static void promise28_whoHasLost() {
        StayWhereFell game = lost();
        game.keep(0);
        due(game.again(1), 6);
        due(game.count(9), NONE);
        due(game.plies() > 0 ? 1 : 0, 1);
        due(game.again(0), 4);
        due(game.count(9), 0);
        due(game.plies(), 0);
        due(game.pass(), STATE);
        StayWhereFell black = Check.lie("G210wKk");
        go(black, 1);
        black.keep(0);
        due(black.again(0), 1);
        due(black.count(9), 1);
    }

    static void promise28_theRowIsEmpty() {
        StayWhereFell game = amid();
        due(game.again(1), 6);
        due(game.count(8), 0);
        due(game.undo(), STATE);
        go(game, 1514);
        due(game.count(8), 1);
        due(game.undo(), 0);
        lies(game, "G443bK.r.#....R.nP..k");
    }

    static void promise28_itIsThereToGoOnFromAgainAndAgain() {
        StayWhereFell game = amid();
        for (int i = 0; i < 3; i++) {
            due(game.again(0), 6);
            lies(game, "G443bK..r#...R..nP..k");
            go(game, 302, 809);
        }
        due(game.again(1), 6);
    }

    static void promise28_theTextAndTheSeedStay() {
        StayWhereFell game = lost();
        due(game.again(0), 6);
        due(game.count(0), 3);
        due(game.fault(), 3);
        due(game.seed(0), 77);
    }

    // ---- 29: count

    static void promise29_anotherNumberIsOutside() {
        for (int what : beyond(0, 9)) {
            still(Edges::amid, game -> game.count(what), OUTSIDE);
            still(Edges::lost, game -> game.count(what), OUTSIDE);
            still(StayWhereFell::new, game -> game.count(what), OUTSIDE);
        }
    }

    static void promise29_bytesOfTheTextFromNoughtToTwentyFour() {
        StayWhereFell game = new StayWhereFell();
        for (int bytes = 0; bytes < 24; bytes++) {
            due(game.count(0), bytes);
            game.write(1, 0);
        }
        due(game.count(0), 24);
        game.write(1, 0);
        due(game.count(0), 24);
        game.wipe();
        due(game.count(0), 0);
    }

    static void promise29_widthHeightAndLastOfTheBoard() {
        for (int wide = 1; wide <= 4; wide++) {
            for (int high = 1; high <= 4; high++) {
                for (int last = 0; last <= 9; last++) {
                    StayWhereFell game = Check.lie(text(wide, high, "" + last, 'w', '.'));
                    due(game.count(1), wide);
                    due(game.count(2), high);
                    due(game.count(3), last);
                }
            }
        }
    }

    static void promise29_ofTheBoardAndNotOfTheText() {
        StayWhereFell game = amid();
        Check.tell(game, "G129bkR");
        due(game.count(0), 7);
        due(game.count(1), 4);
        due(game.count(2), 4);
        due(game.count(3), 3);
    }

    static void promise29_whoIsOn() {
        due(Check.lie("G110w.").count(4), 0);
        due(Check.lie("G110b.").count(4), 1);
        due(lost().count(4), 0);
        StayWhereFell black = Check.lie("G210wKk");
        go(black, 1);
        due(black.count(4), 1);
    }

    static void promise29_bitsOfAllCellsAndOfNone() {
        bits(Check.lie(text(4, 4, "0", 'w', 'K')), 0xFFFF, 0, 0);
        bits(Check.lie(text(4, 4, "0", 'w', 'k')), 0, 0xFFFF, 0);
        bits(Check.lie(text(4, 4, "0", 'w', '#')), 0, 0, 0xFFFF);
        bits(Check.lie(text(4, 4, "0", 'w', '.')), 0, 0, 0);
    }

    private static void bits(StayWhereFell game, int white, int black, int dead) {
        due(game.count(5), white);
        due(game.count(6), black);
        due(game.count(7), dead);
    }

    static void promise29_bitsOfEachSign() {
        bits(Check.lie("G440w.#KRBNPkrbnp...k"), Check.cells(2, 3, 4, 5, 6), Check.cells(7, 8, 9, 10, 11, 15),
            Check.cells(1));
    }

    static void promise29_bitsOfMenThatGoAndFall() {
        bits(amid(), Check.cells(0, 9, 12), Check.cells(2, 15), Check.cells(5));
    }

    static void promise29_pliesOfTheRowFromNoughtToSixteen() {
        StayWhereFell game = new StayWhereFell();
        for (int plies = 0; plies <= 20; plies++) {
            due(game.count(8), Math.min(plies, 16));
            game.pass();
        }
    }

    static void promise29_whoHasLost() {
        due(amid().count(9), NONE);
        due(lost().count(9), 0);
        StayWhereFell black = Check.lie("G210wKk");
        go(black, 1);
        due(black.count(9), 1);
        due(Check.lie("G110w.").count(9), NONE);
    }

    static void promise29_nothingIsChanged() {
        for (int what = 0; what <= 9; what++) {
            StayWhereFell game = amid();
            game.count(what);
            sameAsAmid(game);
        }
    }
}
