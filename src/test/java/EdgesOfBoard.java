/** Edges of promises 1 to 7: a test for each sentence that names one. */
final class EdgesOfBoard extends Edges {
    // ---- 1: a new object

    static void promise01_itIsOneEmptyCell() {
        StayWhereFell game = new StayWhereFell();
        due(game.count(1), 1);
        due(game.count(2), 1);
        due(game.cell(0), '.');
        due(game.cell(1), UNKNOWN);
    }

    static void promise01_lastIsNoughtAndWhiteIsOn() {
        StayWhereFell game = new StayWhereFell();
        due(game.count(3), 0);
        due(game.count(4), 0);
    }

    static void promise01_nobodyIsThereAndNobodyHasLost() {
        StayWhereFell game = new StayWhereFell();
        due(game.count(5), 0);
        due(game.count(6), 0);
        due(game.count(7), 0);
        due(game.count(9), NONE);
        due(game.gone(0), STATE);
    }

    static void promise01_theTextIsEmpty() {
        StayWhereFell game = new StayWhereFell();
        due(game.count(0), 0);
        due(game.fault(), 0);
        due(game.board(), STATE);
        due(game.wipe(), 0);
    }

    static void promise01_theRowIsEmpty() {
        StayWhereFell game = new StayWhereFell();
        due(game.count(8), 0);
        due(game.undo(), STATE);
    }

    static void promise01_theSeedIsNought() {
        due(new StayWhereFell().seed(1), 0);
    }

    static void promise01_nothingIsKept() {
        StayWhereFell game = new StayWhereFell();
        for (int slot = 0; slot < 2; slot++) {
            due(game.again(slot), STATE);
            due(game.ways(slot, 1), STATE);
        }
    }

    static void promise01_itsCellIsAsAnyOther() {
        StayWhereFell game = new StayWhereFell();
        due(game.aims(0), 0);
        due(game.can(0), 0);
        due(game.plies(), 1);
        due(game.move(0, 0), STATE);
        due(game.judge(1, 0), 0);
        due(game.wins(4), 0);
        due(game.keys(4), 0);
        due(game.keyAt(4, 0), NONE);
        due(game.odds(true), 0);
        due(game.odds(false), 1);
        due(game.parts(), 1);
        due(game.part(0), 0);
        due(game.comes(0), 0);
        due(game.comesAt(0, 0), STATE);
        due(game.shut(), 1);
        due(game.play(40), 0);
        due(game.keep(0), 0);
        due(game.ways(0, 2), 1);
        due(game.pass(), 1);
        due(game.undo(), 0);
        due(game.again(0), 0);
    }

    static void promise01_objectsShareNothing() {
        StayWhereFell one = new StayWhereFell();
        StayWhereFell other = amid();
        lies(one, "G110w.");
        due(one.count(0), 0);
        due(one.again(0), STATE);
        due(one.undo(), STATE);
        due(one.seed(3), 0);
        lies(other, "G443bK.r..#...R..P..k");
        due(other.seed(4), 77);
    }

    static void promise01_anObjectServes512Calls() {
        StayWhereFell game = new StayWhereFell();
        game.write(8, 0x47343432_77526B4BL);
        game.write(8, 0x2E2E2E2E_2E2E2E2EL);
        game.write(5, 0x2E_2E2E2E2EL);
        due(game.board(), 16);
        for (int calls = 4; calls < 511; calls++) {
            due(game.wins(1 + calls % 4), 1);
        }
        due(game.keys(1), 2);
    }

    // ---- 2: write

    static void promise02_noByteIsOutside() {
        still(Edges::amid, game -> game.write(0, 'G'), OUTSIDE);
        still(StayWhereFell::new, game -> game.write(0, 'G'), OUTSIDE);
    }

    static void promise02_nineBytesAreOutside() {
        still(StayWhereFell::new, game -> game.write(9, 'G'), OUTSIDE);
    }

    static void promise02_otherNumbersOfBytesAreOutside() {
        for (int n : beyond(1, 8)) {
            still(StayWhereFell::new, game -> game.write(n, 'G'), OUTSIDE);
            still(Edges::lost, game -> game.write(n, 'G'), OUTSIDE);
        }
    }

    static void promise02_oneToEightBytesCome() {
        for (int n = 1; n <= 8; n++) {
            due(new StayWhereFell().write(n, 0), n);
        }
    }

    static void promise02_theLowestBytesComeTheHighestFirst() {
        String text = "G310wKk.";
        for (int n = 1; n <= 8; n++) {
            long v = -1;
            for (int i = 0; i < n; i++) {
                v = v << 8 | text.charAt(i);
            }
            StayWhereFell game = new StayWhereFell();
            due(game.write(n, v), n);
            write(game, text.substring(n));
            due(game.board(), 3);
            lies(game, text);
        }
    }

    static void promise02_bytesAbove127AreBytes() {
        StayWhereFell game = new StayWhereFell();
        due(game.write(8, 0x47313130_77FFFFFFL), 8);
        due(game.fault(), 5);
        StayWhereFell other = new StayWhereFell();
        due(other.write(8, -1), 8);
        due(other.fault(), 0);
        StayWhereFell least = new StayWhereFell();
        due(least.write(8, Long.MIN_VALUE), 8);
        due(least.count(0), 8);
    }

    static void promise02_aByteOfNoughtIsAByte() {
        StayWhereFell game = new StayWhereFell();
        due(game.write(1, 0), 1);
        due(game.count(0), 1);
        due(game.fault(), 0);
    }

    static void promise02_theyComeBehindTheText() {
        StayWhereFell game = new StayWhereFell();
        due(game.write(3, 0x473231), 3);
        due(game.write(2, 0x3077), 5);
        due(game.write(1, 'R'), 6);
        due(game.write(1, '#'), 7);
        due(game.board(), 2);
        lies(game, "G210wR#");
    }

    static void promise02_twentyFourBytesFit() {
        StayWhereFell game = new StayWhereFell();
        due(game.write(8, 0), 8);
        due(game.write(8, 0), 16);
        due(game.write(8, 0), 24);
        due(game.count(0), 24);
    }

    /** Each n against each length, to the byte. */
    static void promise02_longerThanTwentyFourIsFull() {
        for (int length = 0; length <= 24; length++) {
            for (int n = 1; n <= 8; n++) {
                StayWhereFell game = ofLength(length);
                boolean fits = length + n <= 24;
                due(game.write(n, 0), fits ? length + n : FULL);
                due(game.count(0), fits ? length + n : length);
            }
        }
    }

    private static StayWhereFell ofLength(int length) {
        StayWhereFell game = new StayWhereFell();
        for (int i = 0; i < length; i++) {
            game.write(1, '.');
        }
        due(game.count(0), length);
        return game;
    }

    static void promise02_whatIsFullComesNotEvenInPart() {
        // A board of 21 bytes: 3 more would fit, 4 do not.
        for (int n = 4; n <= 8; n++) {
            int bytes = n;
            still(Edges::amid, game -> game.write(bytes, 0x2e2e2e2eL), FULL);
        }
    }

    static void promise02_fewerFitAfterFull() {
        StayWhereFell game = ofLength(20);
        due(game.write(5, 0), FULL);
        due(game.write(4, 0), 24);
        due(game.write(1, 0), FULL);
    }

    static void promise02_outsideIsNamedAheadOfFull() {
        for (int n : beyond(1, 8)) {
            due(ofLength(24).write(n, 0), OUTSIDE);
        }
    }

    static void promise02_thereIsRoomAgainAfterWipe() {
        StayWhereFell game = ofLength(24);
        game.wipe();
        due(game.write(8, 0), 8);
    }

    static void promise02_onlyTheTextIsLonger() {
        StayWhereFell game = lost();
        due(game.write(1, '0'), 4);
        lies(game, "G443w#.r..#...R..P..k");
        due(game.count(8), 6);
        due(game.count(9), 0);
        due(game.seed(0), 77);
    }

    // ---- 3: wipe

    static void promise03_ofAnEmptyTextItIsNought() {
        due(new StayWhereFell().wipe(), 0);
        still(StayWhereFell::new, StayWhereFell::wipe, 0);
    }

    static void promise03_ofAFullTextItIsTwentyFour() {
        due(ofLength(24).wipe(), 24);
    }

    static void promise03_howLongItWas() {
        for (int length = 0; length <= 24; length++) {
            StayWhereFell game = ofLength(length);
            due(game.wipe(), length);
            due(game.count(0), 0);
            due(game.wipe(), 0);
        }
    }

    static void promise03_theTextIsEmptyThen() {
        StayWhereFell game = amid();
        due(game.wipe(), 21);
        due(game.fault(), 0);
        due(game.board(), STATE);
        write(game, "G120bPp");
        due(game.board(), 2);
        lies(game, "G120bPp");
    }

    static void promise03_nothingElseIsWiped() {
        StayWhereFell game = amid();
        due(game.wipe(), 21);
        write(game, "G443wK..rp...R..nP..k");
        due(Seen.of(game).equals(Seen.of(amid())) ? 1 : 0, 1);
    }

    // ---- 4: fault

    static void promise04_ofAnEmptyTextItIsItsLength() {
        due(fault(""), 0);
    }

    static void promise04_theFirstByteIsG() {
        for (int sign = 0; sign < 256; sign++) {
            due(fault("" + (char) sign), sign == 'G' ? 1 : 0);
        }
    }

    static void promise04_theWidthIsOneToFour() {
        figure("G", "110w.........", '1', '4');
    }

    static void promise04_theHeightIsOneToFour() {
        figure("G1", "0w....", '1', '4');
    }

    static void promise04_lastIsNoughtToNine() {
        figure("G11", "w.", '0', '9');
    }

    /** Behind a beginning, all bytes but those from least to most are the fault. */
    private static void figure(String start, String rest, char least, char most) {
        for (int sign = 0; sign < 256; sign++) {
            boolean fits = sign >= least && sign <= most;
            due(fault(start + (char) sign), fits ? start.length() + 1 : start.length());
            if (!fits) {
                due(fault(start + (char) sign + rest), start.length());
            }
        }
    }

    static void promise04_whiteOrBlackIsOn() {
        for (int sign = 0; sign < 256; sign++) {
            due(fault("G110" + (char) sign), sign == 'w' || sign == 'b' ? 5 : 4);
        }
    }

    static void promise04_twelveSignsCanLie() {
        for (int sign = 0; sign < 256; sign++) {
            boolean fits = SIGNS.indexOf((char) sign) >= 0;
            due(fault("G210w" + (char) sign), fits ? 6 : 5);
            due(fault("G210w." + (char) sign), fits ? NONE : 6);
        }
    }

    static void promise04_ofWholeBoardsThereIsNone() {
        for (int wide = 1; wide <= 4; wide++) {
            for (int high = 1; high <= 4; high++) {
                due(fault(text(wide, high, "0", 'w', '#')), NONE);
                due(fault(text(wide, high, "9", 'b', 'p')), NONE);
            }
        }
    }

    /** Of each size, of each length: if only its end is not there, it is the length. */
    static void promise04_notAtItsEndItIsItsLength() {
        for (int wide = 1; wide <= 4; wide++) {
            for (int high = 1; high <= 4; high++) {
                String text = text(wide, high, "5", 'w', '.');
                for (int length = 0; length < text.length(); length++) {
                    due(fault(text.substring(0, length)), length);
                }
            }
        }
    }

    static void promise04_behindItsEndItIsTheFirstThere() {
        for (int wide = 1; wide <= 4; wide++) {
            for (int high = 1; high <= 4; high++) {
                String text = text(wide, high, "5", 'w', '.');
                due(fault(text + "."), text.length());
                due(fault(text + "x"), text.length());
                due(fault(text + "..."), text.length());
            }
        }
    }

    static void promise04_ofTwentyFourBytesToo() {
        due(fault(text(4, 4, "0", 'w', 'K') + "..."), 21);
        due(fault("GGGGGGGGGGGGGGGGGGGGGGGG"), 1);
        due(fault("G440w..................X"), 21);
        due(fault("G440w...............X..."), 20);
    }

    static void promise04_ofSeveralItIsTheFirst() {
        due(fault("XXXXXX"), 0);
        due(fault("G05x?!"), 1);
        due(fault("G15x?!"), 2);
        due(fault("G11x?!"), 3);
        due(fault("G110?!"), 4);
        due(fault("G110w!?"), 5);
        due(fault("G210w.!?"), 6);
    }

    static void promise04_whateverCameBehindIt() {
        String[] starts = {"X", "G0", "G10", "G11a", "G110W", "G110wQ", "G220w..,", "G110w.."};
        for (String start : starts) {
            for (String rest : new String[] {"", "G", "G110w.", "0000", "\0\0"}) {
                due(fault(start + rest), start.length() - 1);
            }
        }
    }

    static void promise04_nothingIsChanged() {
        still(Edges::amid, StayWhereFell::fault, NONE);
        still(Edges::lost, StayWhereFell::fault, 3);
        still(StayWhereFell::new, StayWhereFell::fault, 0);
    }

    // ---- 5: board

    static void promise05_anEmptyTextIsRefused() {
        still(StayWhereFell::new, StayWhereFell::board, STATE);
    }

    static void promise05_aTextNotAtItsEndIsRefused() {
        still(Edges::lost, StayWhereFell::board, STATE);
    }

    static void promise05_aTextWithMoreBehindItsEndIsRefused() {
        still(() -> amidWith("G443wK..rp...R..nP..k."), StayWhereFell::board, STATE);
        still(() -> amidWith("G110wK."), StayWhereFell::board, STATE);
    }

    static void promise05_aTextWithAWrongByteIsRefused() {
        for (String text : new String[] {"g110wK", "G010wK", "G150wK", "G11:wK", "G110WK", "G110wQ"}) {
            still(() -> amidWith(text), StayWhereFell::board, STATE);
        }
    }

    private static StayWhereFell amidWith(String text) {
        StayWhereFell game = amid();
        Check.tell(game, text);
        return game;
    }

    static void promise05_ofEachSizeSoManyCells() {
        for (int wide = 1; wide <= 4; wide++) {
            for (int high = 1; high <= 4; high++) {
                StayWhereFell game = new StayWhereFell();
                write(game, text(wide, high, "0", 'w', '.'));
                due(game.board(), wide * high);
                due(game.count(1), wide);
                due(game.count(2), high);
                due(game.cell(wide * high - 1), '.');
                due(game.cell(wide * high), UNKNOWN);
            }
        }
    }

    static void promise05_fullOfEachSign() {
        for (char sign : SIGNS.toCharArray()) {
            String text = text(4, 4, "9", 'b', sign);
            lies(Check.lie(text), text);
        }
    }

    static void promise05_theTextStaysAsItIs() {
        StayWhereFell game = amidWith("G210bKk");
        due(game.board(), 2);
        due(game.count(0), 7);
        due(game.fault(), NONE);
        due(game.move(1, 0), 'K');
        due(game.board(), 2);
        lies(game, "G210bKk");
    }

    static void promise05_theRowIsEmpty() {
        StayWhereFell game = amid();
        due(game.board(), 16);
        due(game.count(8), 0);
        due(game.undo(), STATE);
    }

    static void promise05_whatWasKeptIsGone() {
        for (int slot = 0; slot < 2; slot++) {
            StayWhereFell game = amid();
            due(game.board(), 16);
            due(game.ways(slot, 1), STATE);
            due(game.again(slot), STATE);
        }
    }

    static void promise05_theSeedStays() {
        StayWhereFell game = amid();
        due(game.board(), 16);
        due(game.seed(0), 77);
    }

    static void promise05_nobodyHasLostOnIt() {
        StayWhereFell game = lost();
        Check.tell(game, "G210wRr");
        due(game.board(), 2);
        due(game.count(9), NONE);
        due(game.plies(), 1);
    }

    static void promise05_theDeadOfBeforeAreForgotten() {
        StayWhereFell game = amid();
        due(game.gone(5), 3);
        Check.tell(game, "G442w.....#..........");
        due(game.board(), 16);
        due(game.gone(5), 0);
        go(game, NONE, NONE, NONE, NONE);
        due(game.cell(5), '#');
        Check.tell(game, "G442w.....K..........");
        due(game.board(), 16);
        go(game, 506, NONE, 605, NONE);
        lies(game, "G442w.....K..........");
    }

    static void promise05_aSmallerBoardLeavesNothingOfTheLarger() {
        StayWhereFell game = Check.lie("G440bKkRrBbNnPp##KkRr");
        Check.tell(game, "G220w....");
        due(game.board(), 4);
        due(game.count(5) + game.count(6) + game.count(7), 0);
        due(game.plies(), 1);
        due(game.cell(4), UNKNOWN);
        Check.tell(game, "G440w................");
        due(game.board(), 16);
        lies(game, "G440w................");
    }

    // ---- 6: cell

    static void promise06_noSuchCellIsUnknown() {
        for (int wide = 1; wide <= 4; wide++) {
            for (int high = 1; high <= 4; high++) {
                String text = text(wide, high, "0", 'w', 'K');
                for (int cell : beyond(0, wide * high - 1)) {
                    due(Check.lie(text).cell(cell), UNKNOWN);
                }
            }
        }
        for (int cell : beyond(0, 15)) {
            still(Edges::amid, game -> game.cell(cell), UNKNOWN);
        }
    }

    static void promise06_theFirstAndTheLastCell() {
        StayWhereFell game = Check.lie("G440wK..............p");
        due(game.cell(0), 'K');
        due(game.cell(15), 'p');
    }

    static void promise06_eachSign() {
        for (char sign : SIGNS.toCharArray()) {
            due(Check.lie("G110w" + sign).cell(0), sign);
        }
    }

    static void promise06_oneThatFellIsToldAsThoseToldAtFirst() {
        StayWhereFell game = Check.lie("G311wRp#");
        due(game.move(0, 1), 'p');
        due(game.cell(1), '#');
        due(game.cell(2), '#');
        due(game.pass(), 0);
        due(game.cell(1), '.');
        due(game.cell(2), '#');
    }

    // ---- 7: gone

    static void promise07_noSuchCellIsUnknown() {
        for (int cell : beyond(0, 15)) {
            still(Edges::amid, game -> game.gone(cell), UNKNOWN);
        }
        for (int cell : beyond(0, 3)) {
            due(Check.lie("G220w####").gone(cell), UNKNOWN);
        }
    }

    static void promise07_whereNoneIsDeadItIsState() {
        for (char sign : SIGNS.toCharArray()) {
            due(Check.lie("G115w" + sign).gone(0), sign == '#' ? 0 : STATE);
        }
        still(Edges::amid, game -> game.gone(0), STATE);
        still(Edges::lost, game -> game.gone(15), STATE);
    }

    static void promise07_thoseToldAtFirstAreNeverGone() {
        for (int last = 0; last <= 9; last++) {
            StayWhereFell game = Check.lie("G11" + last + "w#");
            for (int i = 0; i < 24; i++) {
                due(game.gone(0), 0);
                due(game.pass(), 1 - i % 2);
            }
            due(game.cell(0), '#');
        }
    }

    static void promise07_byLastNoughtTheyAreNeverGone() {
        StayWhereFell game = Check.lie("G210wRr");
        due(game.move(0, 1), 'r');
        for (int i = 0; i < 24; i++) {
            due(game.gone(1), 0);
            due(game.pass(), i % 2);
        }
        due(game.cell(1), '#');
    }

    /** For each LAST from 1 to 9, ply by ply, till it is gone and long after. */
    static void promise07_goneBehindTheLastPly() {
        for (int last = 1; last <= 9; last++) {
            StayWhereFell game = Check.lie("G21" + last + "wPr");
            due(game.pass(), 1);
            due(game.move(1, 0), 'P');
            for (int left = last; left > 0; left--) {
                due(game.gone(0), left);
                due(game.cell(0), '#');
                due(game.plies(), 1);
                due(game.pass() >= 0 ? 1 : 0, 1);
            }
            due(game.gone(0), STATE);
            due(game.cell(0), '.');
            go(game, last % 2 == 0 ? NONE : 100);
            due(game.count(7), 0);
        }
    }

    static void promise07_eachDeadHasItsOwnTime() {
        StayWhereFell game = Check.lie("G423wRp....rP");
        due(game.move(0, 1), 'p');
        due(game.move(6, 7), 'P');
        due(game.gone(1), 2);
        due(game.gone(7), 3);
        go(game, 4, 605);
        due(game.gone(1), STATE);
        due(game.gone(7), 1);
        go(game, 400);
        due(game.count(7), 0);
    }

    /** Who is on when p is gone goes where it lay, and is taken there by the other one. */
    static void promise07_whereOneIsGoneAnotherLiesAllItsTime() {
        for (int last = 1; last <= 9; last++) {
            StayWhereFell game = Check.lie("G32" + last + "wRp##r#");
            go(game, 1);
            for (int i = 0; i < last; i++) {
                go(game, NONE);
            }
            due(game.gone(1), STATE);
            boolean white = game.count(4) == 0;
            go(game, white ? 1 : 401, white ? 401 : 1);
            for (int left = last; left > 0; left--) {
                due(game.gone(1), left);
                go(game, NONE);
            }
            due(game.gone(1), STATE);
        }
    }

    static void promise07_onTheLastCellToo() {
        StayWhereFell game = Check.lie("G449w..............Rr");
        due(game.move(14, 15), 'r');
        int[] plies = {NONE, 1410, NONE, 1014, NONE, 1410, NONE, 1014};
        for (int i = 0; i < plies.length; i++) {
            due(game.gone(15), 9 - i);
            go(game, plies[i]);
        }
        due(game.gone(15), 1);
        go(game, NONE);
        due(game.gone(15), STATE);
        lies(game, "G449w..............R.");
    }

    static void promise07_ofAnUndonePlyItLiesAsLongAgain() {
        StayWhereFell game = Check.lie("G312wRr#");
        go(game, 1, NONE);
        due(game.gone(1), 1);
        due(game.undo(), 1);
        due(game.gone(1), 2);
        go(game, NONE, NONE);
        due(game.gone(1), STATE);
        due(game.undo(), 2);
        due(game.gone(1), 1);
    }
}
