/** Promises 8 to 14: where men aim and can go, plies, undone, told games judged. */
final class PliesTest {
    private static final int UNKNOWN = -1, OUTSIDE = -2, STATE = -3, NONE = -9;
    private static final Check CHECK = new Check();

    public static void main(String[] args) {
        aimsOfKinds();
        aimsAtTheFirst();
        canGo();
        canTake();
        pawns();
        plies();
        move();
        moveRefused();
        lost();
        pass();
        undo();
        judge();
        CHECK.end("promises 8 to 14");
    }

    private static void aimsOfKinds() {
        StayWhereFell game = Check.lie("G440w.....K..........");
        CHECK.due("8: K", game.aims(5), Check.cells(0, 1, 2, 4, 6, 8, 9, 10));
        CHECK.due("8: none there", game.aims(4), 0);
        CHECK.due("8: R", Check.lie("G440w.....r..........").aims(5), Check.cells(1, 4, 6, 7, 9, 13));
        CHECK.due("8: B", Check.lie("G440w.....b..........").aims(5), Check.cells(0, 2, 8, 10, 15));
        CHECK.due("8: N", Check.lie("G440w.....n..........").aims(5), Check.cells(3, 11, 12, 14));
        CHECK.due("8: P goes up", Check.lie("G440w.....P..........").aims(5), Check.cells(0, 2));
        CHECK.due("8: p goes down", Check.lie("G440w.....p..........").aims(5), Check.cells(8, 10));
        CHECK.due("8: a corner K", Check.lie("G440wK...............").aims(0), Check.cells(1, 4, 5));
        CHECK.due("8: a corner N", Check.lie("G440w...............N").aims(15), Check.cells(6, 9));
        CHECK.due("8: an edge P", Check.lie("G440w.......P........").aims(7), Check.cells(2));
        CHECK.due("8: P at its end", Check.lie("G440w.P..............").aims(1), 0);
        CHECK.due("8: p at its end", Check.lie("G440w.............p..").aims(13), 0);
        CHECK.due("8: another width", Check.lie("G340w.......N....").aims(7), Check.cells(0, 2));
        CHECK.due("8: another width", Check.lie("G240wR.......").aims(0), Check.cells(1, 2, 4, 6));
        CHECK.due("8: a DEAD one", Check.lie("G210w#K").aims(0), 0);
        int[] none = {-1, 16, Integer.MIN_VALUE, Integer.MAX_VALUE};
        for (int cell : none) {
            CHECK.due("8: aims(" + cell + ")", game.aims(cell), UNKNOWN);
            CHECK.due("9: can(" + cell + ")", game.can(cell), UNKNOWN);
        }
        CHECK.due("8: behind the last", Check.lie("G220wK...").aims(4), UNKNOWN);
    }

    private static void aimsAtTheFirst() {
        StayWhereFell game = Check.lie("G440wR.p...#.P..K#...");
        CHECK.due("8: at a foe, at a friend", game.aims(0), Check.cells(1, 2, 4, 8));
        CHECK.due("8: at all next to it", game.aims(11), Check.cells(6, 7, 10, 14, 15));
        CHECK.due("8: B at one that is DEAD", Check.lie("G440wB.........#.....").aims(0), Check.cells(5, 10));
        CHECK.due("8: P at whatever is there", Check.lie("G320w#.kP.P").aims(5), Check.cells(1));
        CHECK.due("8: P at one that is DEAD", Check.lie("G320w#.k.P.").aims(4), Check.cells(0, 2));
    }

    private static void canGo() {
        StayWhereFell game = Check.lie("G440bR.p...#.P..K#...");
        CHECK.due("9: whoever is on", game.can(0), Check.cells(1, 2, 4));
        CHECK.due("9: not on the DEAD", game.can(11), Check.cells(7, 10, 14, 15));
        CHECK.due("9: nobody", game.can(1), 0);
        CHECK.due("9: a DEAD one", game.can(6), 0);
        CHECK.due("9: N passes all", Check.lie("G330wN#.####.#").can(0), Check.cells(7));
        CHECK.due("9: nothing to go to", Check.lie("G220wK###").can(0), 0);
    }

    private static void canTake() {
        StayWhereFell game = Check.lie("G330wkKkrRR#b.");
        CHECK.due("9: K", game.can(1), Check.cells(0, 2, 3));
        CHECK.due("9: R", game.can(4), Check.cells(3, 7));
        CHECK.due("9: k", game.can(0), Check.cells(1, 4));
        CHECK.due("9: b", game.can(7), Check.cells(5));
        CHECK.due("9: its own are in the way", game.can(5), Check.cells(2, 8));
    }

    private static void pawns() {
        StayWhereFell game = Check.lie("G330wrkb.P...p");
        CHECK.due("9: P takes slantwise, not ahead", game.can(4), Check.cells(0, 2));
        CHECK.due("9: p goes no further", game.can(8), 0);
        StayWhereFell free = Check.lie("G330w....P.R.p");
        CHECK.due("9: P goes ahead alone", free.can(4), Check.cells(1));
        StayWhereFell down = Check.lie("G330w.p..KR...");
        CHECK.due("9: p takes slantwise", down.can(1), Check.cells(5));
        CHECK.due("9: p goes down", Check.lie("G330w.p.......").can(1), Check.cells(4));
        CHECK.due("9: not two", Check.lie("G140w...P").can(3), Check.cells(2));
        CHECK.due("9: not past the DEAD", Check.lie("G140w..#P").can(3), 0);
        CHECK.due("9: not its own", Check.lie("G220wR..P").can(3), Check.cells(1));
    }

    private static void plies() {
        CHECK.due("10: nobody is there", Check.lie("G220w....").plies(), 1);
        CHECK.due("10: K", Check.lie("G220wK...").plies(), 3);
        CHECK.due("10: the other side's", Check.lie("G220bK...").plies(), 1);
        CHECK.due("10: both kinds", Check.lie("G330wRk.......").plies(), 3);
        CHECK.due("10: of several men", Check.lie("G330bRk.p.....").plies(), 4 + 1);
        CHECK.due("10: full of men", Check.lie("G440wRRRRRRRRrrrrrrrr").plies(), 4);
        CHECK.due("10: K and N", Check.lie("G440wK..............N").plies(), 3 + 2);
        StayWhereFell game = Check.lie("G310wKkr");
        game.move(0, 1);
        CHECK.due("10: a side has lost", game.plies(), 0);
    }

    private static void move() {
        StayWhereFell game = Check.lie("G330wR.rN..k..");
        CHECK.due("11: goes", game.move(0, 1), '.');
        CHECK.lies("11: gone there", game, "G330b.RrN..k..");
        CHECK.due("11: takes", game.move(2, 1), 'R');
        CHECK.lies("11: it stays where it is", game, "G330w.#rN..k..");
        CHECK.due("11: N passes all", game.move(3, 2), 'r');
        CHECK.lies("11: it falls there", game, "G330b.##N..k..");
        CHECK.due("11: a row of three", game.count(8), 3);

        StayWhereFell brief = Check.lie("G311wKp.");
        CHECK.due("11: LAST 1", brief.move(0, 1), 'p');
        CHECK.lies("11: it lies for one ply", brief, "G311bK#.");
        brief.pass();
        CHECK.lies("11: and is gone", brief, "G311wK..");
        CHECK.due("11: one can stand there", brief.move(0, 1), '.');
        brief.pass();
        CHECK.lies("11: and stays there", brief, "G311w.K.");

        StayWhereFell first = Check.lie("G311bRk.");
        CHECK.due("11: on CELL 0", first.move(1, 0), 'R');
        first.pass();
        CHECK.lies("11: gone from CELL 0", first, "G311b.k.");

        StayWhereFell last = Check.lie("G444w.............rR.");
        CHECK.due("11: beside the last CELL", last.move(14, 13), 'r');
        CHECK.due("11: and a pass", last.pass(), 0);
        CHECK.due("11: not past the DEAD", last.move(14, 12), STATE);
        CHECK.due("11: the other way", last.move(14, 15), '.');
    }

    private static void moveRefused() {
        StayWhereFell game = Check.lie("G330wR.rN..k#.");
        CHECK.due("11: from -1", game.move(-1, 0), UNKNOWN);
        CHECK.due("11: from 9", game.move(9, 0), UNKNOWN);
        CHECK.due("11: to -1", game.move(0, -1), UNKNOWN);
        CHECK.due("11: to 9", game.move(0, 9), UNKNOWN);
        CHECK.due("11: to MAX", game.move(0, Integer.MAX_VALUE), UNKNOWN);
        CHECK.due("11: from MIN", game.move(Integer.MIN_VALUE, 0), UNKNOWN);
        CHECK.due("11: UNKNOWN ahead of STATE", game.move(1, 100), UNKNOWN);
        CHECK.due("11: nobody is there", game.move(1, 4), STATE);
        CHECK.due("11: not on", game.move(2, 1), STATE);
        CHECK.due("11: a DEAD one", game.move(7, 8), STATE);
        CHECK.due("11: onto its own", game.move(0, 3), STATE);
        CHECK.due("11: where it is", game.move(0, 0), STATE);
        CHECK.due("11: can not", game.move(0, 4), STATE);
        CHECK.due("11: N onto one that is DEAD", game.move(3, 7), STATE);
        CHECK.lies("11: nothing changed", game, "G330wR.rN..k#.");
        CHECK.due("11: nothing changed", game.count(8), 0);
    }

    private static void lost() {
        StayWhereFell game = Check.lie("G332wR..k..k.R");
        CHECK.due("11: one of two K", game.move(0, 3), 'k');
        CHECK.due("11: has not lost", game.count(9), NONE);
        CHECK.due("11: goes on", game.move(6, 7), '.');
        CHECK.due("11: the last K", game.move(8, 7), 'k');
        CHECK.due("11: has lost", game.count(9), 1);
        CHECK.due("11: no more plies", game.move(0, 1), STATE);
        CHECK.due("12: no more plies", game.pass(), STATE);
        CHECK.due("14: no more plies", game.judge(1, 1), 0);
        CHECK.due("7: still told", game.gone(7), 2);
        CHECK.due("9: still told", game.can(0), Check.cells(1, 2, 3, 6));
        CHECK.due("13: undone", game.undo(), 2);
        CHECK.due("13: has not lost", game.count(9), NONE);
        CHECK.lies("13: undone", game, "G332wR..#...kR");
        CHECK.due("11: with none at first nobody loses", Check.lie("G210wRr").move(0, 1), 'r');
        StayWhereFell none = Check.lie("G210wRr");
        none.move(0, 1);
        CHECK.due("11: with none at first nobody loses", none.count(9), NONE);
        StayWhereFell white = Check.lie("G210bKr");
        white.move(1, 0);
        CHECK.due("11: WHITE has lost", white.count(9), 0);
    }

    private static void pass() {
        StayWhereFell game = Check.lie("G212wP.");
        CHECK.due("12: P at its end", game.pass(), 1);
        CHECK.due("12: and nobody", game.pass(), 0);
        CHECK.due("12: a row of two", game.count(8), 2);
        CHECK.due("12: could go", Check.lie("G210wK.").pass(), STATE);
        CHECK.due("12: could take", Check.lie("G210wKk").pass(), STATE);
        CHECK.due("12: one ply that is no pass", Check.lie("G120w.P").pass(), STATE);
        CHECK.due("12: its own is in the way", Check.lie("G210wKR").pass(), 1);
        CHECK.due("12: the other could", Check.lie("G210bK.").pass(), 0);
    }

    private static void undo() {
        StayWhereFell game = Check.lie("G413wKr.k");
        CHECK.due("13: none", game.undo(), STATE);
        game.move(0, 1);
        game.move(3, 2);
        CHECK.due("13: one is left", game.undo(), 1);
        CHECK.lies("13: one is left", game, "G413bK#.k");
        CHECK.due("13: it lies as long as it did", game.gone(1), 3);
        CHECK.due("13: none is left", game.undo(), 0);
        CHECK.lies("13: none is left", game, "G413wKr.k");
        CHECK.due("13: none", game.undo(), STATE);

        StayWhereFell many = Check.lie("G220wK...");
        for (int i = 0; i < 21; i++) {
            if (i % 2 == 1) {
                many.pass();
            } else {
                many.move(i / 2 % 4, (i / 2 + 1) % 4);
            }
            CHECK.due("13: a row of 16 at most", many.count(8), Math.min(16, i + 1));
        }
        CHECK.lies("13: many", many, "G220b...K");
        for (int i = 15; i >= 0; i--) {
            CHECK.due("13: so many are left", many.undo(), i);
            int made = i + 5;
            int at = (made + 1) / 2 % 4;
            CHECK.due("13: where it was", many.count(5), 1 << at);
            CHECK.due("13: who was on", many.count(4), made % 2);
        }
        CHECK.due("13: the first ones are forgotten", many.undo(), STATE);
        many.pass();
        CHECK.due("13: and on", many.undo(), 0);
    }

    private static void judge() {
        StayWhereFell game = Check.lie("G442wR..............k");
        CHECK.due("14: one", game.judge(1, 3), NONE);
        CHECK.due("14: one that may not be", game.judge(1, 5), 0);
        CHECK.due("14: two", game.judge(2, 31514), NONE);
        CHECK.due("14: the second", game.judge(2, 31515), 1);
        CHECK.due("14: the second is the other side's", game.judge(2, 30302), 1);
        CHECK.due("14: the first", game.judge(2, 51514), 0);
        CHECK.due("14: both", game.judge(2, 50005), 0);
        CHECK.due("14: CELLS that there are not", game.judge(1, 16), 0);
        CHECK.due("14: CELLS that there are not", game.judge(1, 9999), 0);
        CHECK.due("14: CELLS that there are not", game.judge(2, 99999999), 0);
        CHECK.due("14: CELLS that there are not", game.judge(2, 39999), 1);
        CHECK.due("14: five figures", game.judge(1, 10000), OUTSIDE);
        CHECK.due("14: nine figures", game.judge(2, 100000000), OUTSIDE);
        CHECK.due("14: below", game.judge(1, -1), OUTSIDE);
        CHECK.due("14: below", game.judge(2, Integer.MIN_VALUE), OUTSIDE);
        CHECK.due("14: n 0", game.judge(0, 3), OUTSIDE);
        CHECK.due("14: n 3", game.judge(3, 3), OUTSIDE);
        CHECK.due("14: n MIN", game.judge(Integer.MIN_VALUE, 3), OUTSIDE);
        CHECK.lies("14: nothing changed", game, "G442wR..............k");
        CHECK.due("14: nothing changed", game.count(8), 0);
        CHECK.due("14: a side has lost by the first", Check.lie("G310wRk.").judge(2, 10102), 1);
        CHECK.due("14: where it fell nobody stands", Check.lie("G411wRpk.").judge(2, 10201), 1);
        CHECK.due("14: a pass is no move", Check.lie("G110w.").judge(1, 0), 0);
    }
}
