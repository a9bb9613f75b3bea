/** Promises 1 to 7 and 29: texts, boards told as texts, what lies on them. */
final class BoardTest {
    private static final int UNKNOWN = -1, OUTSIDE = -2, STATE = -3, FULL = -4, NONE = -9;
    private static final Check CHECK = new Check();

    public static void main(String[] args) {
        newObject();
        write();
        wipe();
        faultOfBeginnings();
        faultOfEachByte();
        board();
        cell();
        gone();
        count();
        CHECK.end("promises 1 to 7, 29");
    }

    private static void newObject() {
        StayWhereFell game = new StayWhereFell();
        CHECK.lies("1: new", game, "G110w.");
        int[] counts = {0, 1, 1, 0, 0, 0, 0, 0, 0, NONE};
        for (int what = 0; what < counts.length; what++) {
            CHECK.due("1: count(" + what + ")", game.count(what), counts[what]);
        }
        CHECK.due("1: seed", game.seed(7), 0);
        CHECK.due("1: undo", game.undo(), STATE);
        CHECK.due("1: again(0)", game.again(0), STATE);
        CHECK.due("1: again(1)", game.again(1), STATE);
        CHECK.due("1: fault", game.fault(), 0);
    }

    private static void write() {
        StayWhereFell game = new StayWhereFell();
        CHECK.due("2: none", game.write(0, 'G'), OUTSIDE);
        CHECK.due("2: below", game.write(Integer.MIN_VALUE, 'G'), OUTSIDE);
        CHECK.due("2: nine", game.write(9, 'G'), OUTSIDE);
        CHECK.due("2: most", game.write(Integer.MAX_VALUE, 'G'), OUTSIDE);
        CHECK.due("2: nothing came", game.count(0), 0);
        CHECK.due("2: the lowest, the highest of these first", game.write(3, 0x5858_5858_5847_3131L), 3);
        CHECK.due("2: eight, of a negative one, too", game.write(8, 0xFF00_0000_0000_0001L), 11);
        CHECK.due("2: the fault is at the fourth", game.fault(), 3);
        CHECK.due("2: to the brim", game.write(8, 0), 19);
        CHECK.due("2: over it", game.write(6, 0), FULL);
        CHECK.due("2: nothing came", game.count(0), 19);
        CHECK.due("2: OUTSIDE ahead of FULL", game.write(9, 0), OUTSIDE);
        CHECK.due("2: to the brim", game.write(5, 0), 24);
        CHECK.due("2: over it", game.write(1, 0), FULL);
        CHECK.due("2: it is 24", game.count(0), 24);
        CHECK.due("2: OUTSIDE ahead of FULL", game.write(0, 0), OUTSIDE);

        StayWhereFell other = new StayWhereFell();
        other.write(4, 0x4732_3130L);
        other.write(3, 0x62_4B_6BL);
        CHECK.due("2: two writings", other.board(), 2);
        CHECK.lies("2: two writings", other, "G210bKk");
    }

    private static void wipe() {
        StayWhereFell game = new StayWhereFell();
        CHECK.due("3: empty", game.wipe(), 0);
        Check.tell(game, "G110wK");
        CHECK.due("3: board", game.board(), 1);
        CHECK.due("3: six", game.wipe(), 6);
        CHECK.due("3: now none", game.wipe(), 0);
        CHECK.due("3: count", game.count(0), 0);
        CHECK.due("3: the board stays", game.cell(0), 'K');
        game.write(1, 'X');
        CHECK.due("3: what was there is away", game.fault(), 0);
    }

    private static void faultOfBeginnings() {
        String[] whole = {"G110w.", "G449bKRBNPkrbnp.#K.#.", "G145b#.kP", "G411wpppp", "G330w........."};
        StayWhereFell game = new StayWhereFell();
        for (String text : whole) {
            for (int length = 0; length < text.length(); length++) {
                String start = text.substring(0, length);
                Check.tell(game, start);
                CHECK.due("4: not at its end: " + start, game.fault(), length);
                CHECK.due("5: nor a board", game.board(), STATE);
            }
            Check.tell(game, text);
            CHECK.due("4: " + text, game.fault(), NONE);
            Check.tell(game, text + ".");
            CHECK.due("4: behind its end: " + text, game.fault(), text.length());
            CHECK.due("5: nor a board", game.board(), STATE);
        }
        Check.tell(game, "G110w.GGG");
        CHECK.due("4: more behind its end", game.fault(), 6);
        Check.tell(game, "G110wG.");
        CHECK.due("4: the first one counts", game.fault(), 5);
        Check.tell(game, "G210w.x.........");
        CHECK.due("4: the first one counts", game.fault(), 6);
        Check.tell(game, "G440w...................");
        CHECK.due("4: 24 bytes", game.fault(), 21);
    }

    /** Each byte at each place of a board, against the signs that the document lets stand there. */
    private static void faultOfEachByte() {
        String[] may = {"G", "1234", "1234", "0123456789", "wb", ".#KRBNPkrbnp", ".#KRBNPkrbnp"};
        String text = "G210w.K";
        StayWhereFell game = new StayWhereFell();
        for (int place = 0; place < text.length(); place++) {
            for (int sign = 0; sign < 256; sign++) {
                game.wipe();
                for (int i = 0; i <= place; i++) {
                    game.write(1, i == place ? sign : text.charAt(i));
                }
                boolean fits = may[place].indexOf((char) sign) >= 0;
                long want = fits ? place + 1 == text.length() ? NONE : place + 1 : place;
                CHECK.due("4: byte " + sign + " at " + place, game.fault(), want);
            }
        }
    }

    private static void board() {
        StayWhereFell game = new StayWhereFell();
        Check.tell(game, "G212bKk");
        CHECK.due("5: two", game.board(), 2);
        CHECK.lies("5: ", game, "G212bKk");
        CHECK.due("5: the text stays", game.count(0), 7);
        game.seed(99);
        CHECK.due("5: kept", game.keep(0), 2);
        CHECK.due("5: kept", game.keep(1), 2);
        CHECK.due("5: a ply", game.move(1, 0), 'K');
        CHECK.due("5: lost", game.count(9), 0);
        Check.tell(game, "G212wKx");
        CHECK.due("5: a fault", game.board(), STATE);
        CHECK.lies("5: nothing changed", game, "G212w#k");
        CHECK.due("5: nothing changed", game.count(8), 1);
        CHECK.due("5: nothing changed", game.ways(1, 1), 0);
        Check.tell(game, "G440wKRBNPkrbnp.#KRBN");
        CHECK.due("5: sixteen", game.board(), 16);
        CHECK.lies("5: ", game, "G440wKRBNPkrbnp.#KRBN");
        CHECK.due("5: the row is empty", game.count(8), 0);
        CHECK.due("5: the row is empty", game.undo(), STATE);
        CHECK.due("5: nobody has lost", game.count(9), NONE);
        CHECK.due("5: what was kept is gone", game.again(1), STATE);
        CHECK.due("5: what was kept is gone", game.again(0), STATE);
        CHECK.due("5: what was kept is gone", game.ways(0, 1), STATE);
        CHECK.due("5: what was kept is gone", game.ways(1, 1), STATE);
        CHECK.due("5: the seed stays", game.seed(0), 99);
        CHECK.due("5: again from the same text", game.board(), 16);
        Check.tell(game, "G140b#...");
        CHECK.due("5: four", game.board(), 4);
        CHECK.lies("5: smaller ones leave nothing", game, "G140b#...");
        CHECK.due("5: smaller ones leave nothing", game.count(5) + game.count(6), 0);
    }

    private static void cell() {
        String text = "G430wKRBNPkrbnp.#";
        StayWhereFell game = Check.lie(text);
        for (int cell = 0; cell < 12; cell++) {
            CHECK.due("6: cell(" + cell + ")", game.cell(cell), text.charAt(5 + cell));
        }
        int[] none = {-1, 12, 15, 16, Integer.MIN_VALUE, Integer.MAX_VALUE};
        for (int cell : none) {
            CHECK.due("6: cell(" + cell + ")", game.cell(cell), UNKNOWN);
            CHECK.due("7: gone(" + cell + ")", game.gone(cell), UNKNOWN);
        }
    }

    private static void gone() {
        StayWhereFell game = Check.lie("G413wRp#.");
        CHECK.due("7: a man", game.gone(0), STATE);
        CHECK.due("7: none", game.gone(3), STATE);
        CHECK.due("7: told by #", game.gone(2), 0);
        CHECK.due("7: taken", game.move(0, 1), 'p');
        for (int left = 3; left > 0; left--) {
            CHECK.due("7: it lies", game.gone(1), left);
            CHECK.due("7: it lies", game.cell(1), '#');
            CHECK.due("7: none can go but by a pass", game.pass(), left % 2 == 1 ? 0 : 1);
        }
        CHECK.due("7: gone", game.gone(1), STATE);
        CHECK.due("7: gone", game.cell(1), '.');
        CHECK.due("7: told by # for ever", game.gone(2), 0);
        CHECK.due("7: undone", game.undo(), 3);
        CHECK.due("7: undone", game.gone(1), 1);

        StayWhereFell ever = Check.lie("G310wRp.");
        ever.move(0, 1);
        CHECK.due("7: LAST 0", ever.gone(1), 0);
        for (int i = 0; i < 20; i++) {
            CHECK.due("7: it lies for ever", ever.pass(), i % 2 == 0 ? 0 : 1);
        }
        CHECK.due("7: it lies for ever", ever.cell(1), '#');

        StayWhereFell two = Check.lie("G422wRp..r.P.");
        CHECK.due("7: the one", two.move(0, 1), 'p');
        CHECK.due("7: LAST plies", two.gone(1), 2);
        CHECK.due("7: P is in the way", two.move(4, 7), STATE);
        CHECK.due("7: the other", two.move(4, 0), 'R');
        CHECK.due("7: by turns", two.gone(1), 1);
        CHECK.due("7: by turns", two.gone(0), 2);
        CHECK.due("7: a ply", two.move(6, 2), '.');
        CHECK.due("7: gone", two.gone(1), STATE);
        CHECK.due("7: by turns", two.gone(0), 1);

        StayWhereFell nine = Check.lie("G319bkR.");
        nine.move(0, 1);
        CHECK.due("7: LAST 9", nine.gone(1), 9);
    }

    private static void count() {
        StayWhereFell game = Check.lie("G327bK.#rnP");
        int[] counts = {11, 3, 2, 7, 1, Check.cells(0, 5), Check.cells(3, 4), Check.cells(2), 0, NONE};
        for (int what = 0; what < counts.length; what++) {
            CHECK.due("29: count(" + what + ")", game.count(what), counts[what]);
        }
        CHECK.due("29: count(-1)", game.count(-1), OUTSIDE);
        CHECK.due("29: count(10)", game.count(10), OUTSIDE);
        CHECK.due("29: count(MIN)", game.count(Integer.MIN_VALUE), OUTSIDE);
        CHECK.due("29: count(MAX)", game.count(Integer.MAX_VALUE), OUTSIDE);
        CHECK.due("29: a ply", game.move(3, 0), 'K');
        int[] then = {11, 3, 2, 7, 0, Check.cells(5), Check.cells(3, 4), Check.cells(0, 2), 1, 0};
        for (int what = 0; what < then.length; what++) {
            CHECK.due("29: then count(" + what + ")", game.count(what), then[what]);
        }
        StayWhereFell black = Check.lie("G210wKk");
        black.move(0, 1);
        CHECK.due("29: BLACK has lost", black.count(9), 1);
        CHECK.due("29: BLACK is on", black.count(4), 1);
    }
}
