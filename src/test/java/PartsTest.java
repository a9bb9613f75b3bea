/** Promises 19 to 23: parts cut off by the dead, where men can come, at whom. */
final class PartsTest {
    private static final int UNKNOWN = -1, STATE = -3, NONE = -9;
    private static final int[] NO_CELLS = {-1, 16, Integer.MIN_VALUE, Integer.MAX_VALUE};
    private static final Check CHECK = new Check();

    public static void main(String[] args) {
        parts();
        partsByFalls();
        comes();
        comesAlone();
        comesAt();
        comesAtRefused();
        shut();
        CHECK.end("promises 19 to 23");
    }

    private static void parts(String text, int parts, int... of) {
        StayWhereFell game = Check.lie(text);
        CHECK.due("19: " + text, game.parts(), parts);
        for (int cell = 0; cell < of.length; cell++) {
            CHECK.due("20: " + text + ", part(" + cell + ")", game.part(cell), of[cell]);
        }
        CHECK.due("20: " + text + ", behind the last", game.part(of.length), UNKNOWN);
    }

    private static void parts() {
        parts("G110w.", 1, 0);
        parts("G110w#", 0, NONE);
        parts("G220w####", 0, NONE, NONE, NONE, NONE);
        parts("G220w#.K#", 1, NONE, 0, 0, NONE);
        parts("G330wKkr.p....", 1, 0, 0, 0, 0, 0, 0, 0, 0, 0);
        parts("G330w.#.#####.", 3, 0, NONE, 1, NONE, NONE, NONE, NONE, NONE, 2);
        parts("G340w..#.###.....", 1, 0, 0, NONE, 0, NONE, NONE, NONE, 0, 0, 0, 0, 0);
        parts("G340w..####.#....", 2, 0, 0, NONE, NONE, NONE, NONE, 1, NONE, 1, 1, 1, 1);
        // A long way round is one part by its least cell.
        parts("G430w.#.#.#.#.##.", 2, 0, NONE, 1, NONE, 0, NONE, 1, NONE, 0, NONE, NONE, 1);
        parts("G440w#..#####.##.#..#", 2, NONE, 0, 0, NONE, NONE, NONE, NONE, NONE, 1, NONE, NONE, 1, NONE, 1, 1, NONE);
        parts("G440w...#.#.##.....#.", 1, 0, 0, 0, NONE, 0, NONE, 0, NONE, NONE, 0, 0, 0, 0, 0, NONE, 0);
    }

    private static void partsByFalls() {
        StayWhereFell game = Check.lie("G311wRp.");
        CHECK.due("19: one", game.parts(), 1);
        game.move(0, 1);
        CHECK.due("19: cut in two", game.parts(), 2);
        CHECK.due("20: cut", game.part(1), NONE);
        CHECK.due("20: cut", game.part(2), 1);
        game.pass();
        CHECK.due("19: one again", game.parts(), 1);
        for (int cell : NO_CELLS) {
            CHECK.due("20: part(" + cell + ")", game.part(cell), UNKNOWN);
            CHECK.due("21: comes(" + cell + ")", game.comes(cell), UNKNOWN);
        }
    }

    private static void comes() {
        CHECK.due("21: none", Check.lie("G210w.K").comes(0), 0);
        CHECK.due("21: a DEAD one", Check.lie("G210w#K").comes(0), 0);
        CHECK.due("21: where it is", Check.lie("G210w#K").comes(1), Check.cells(1));
        CHECK.due("21: behind the last", Check.lie("G210w#K").comes(2), UNKNOWN);
        CHECK.due("21: K", Check.lie("G330wK........").comes(0), 511);
        CHECK.due("21: K not past the DEAD", Check.lie("G330wK..###...").comes(0), 7);
        CHECK.due("21: R", Check.lie("G330wR........").comes(0), 511);
        CHECK.due("21: R not slantwise", Check.lie("G330wR##......").comes(0), Check.cells(0, 3, 4, 5, 6, 7, 8));
        CHECK.due("21: R shut in", Check.lie("G330wR#.#.....").comes(0), Check.cells(0));
        CHECK.due("21: B stays on its colour", Check.lie("G330wB........").comes(0), Check.cells(0, 2, 4, 6, 8));
        CHECK.due("21: B not past the DEAD", Check.lie("G330wB...#....").comes(0), Check.cells(0));
        CHECK.due("21: N all round", Check.lie("G330wN........").comes(0), 511 - Check.cells(4));
        CHECK.due("21: N passes the DEAD", Check.lie("G330wN####....").comes(0), Check.cells(0, 5, 6, 7));
        CHECK.due("21: P upward alone", Check.lie("G240w......P.").comes(6), Check.cells(0, 2, 4, 6));
        CHECK.due("21: p downward alone", Check.lie("G240w..p.....").comes(2), Check.cells(2, 4, 6));
        CHECK.due("21: P not past the DEAD", Check.lie("G240w..#...P.").comes(6), Check.cells(4, 6));
        CHECK.due("21: P never takes", Check.lie("G220wrr.P").comes(3), Check.cells(1, 3));
    }

    private static void comesAlone() {
        StayWhereFell game = Check.lie("G311wRpk");
        CHECK.due("21: as if nobody else were there", game.comes(0), 7);
        game.move(0, 1);
        CHECK.due("21: as if the DEAD lay for ever", game.comes(0), 1);
        CHECK.due("21: as if the DEAD lay for ever", game.comes(2), 4);
        CHECK.due("22: as if the DEAD lay for ever", game.comesAt(0, 2), 0);
        CHECK.due("23: as if the DEAD lay for ever", game.shut(), 1);
        game.pass();
        CHECK.due("21: when it is gone", game.comes(0), 7);
        CHECK.due("22: when it is gone", game.comesAt(0, 2), 1);
        CHECK.due("23: when it is gone", game.shut(), 0);
    }

    private static void comesAt(String text, int cell, int other, int want) {
        CHECK.due("22: " + text + ", comesAt(" + cell + ", " + other + ")", Check.lie(text).comesAt(cell, other), want);
    }

    private static void comesAt() {
        comesAt("G310wKPk", 0, 2, 1);
        comesAt("G310wKPk", 2, 0, 1);
        comesAt("G310wKPk", 1, 2, 0);
        comesAt("G310wKPk", 2, 1, 1);
        comesAt("G310wK#k", 0, 2, 0);
        comesAt("G310bR.k", 0, 2, 1);
        // Both shut in, but N passes the DEAD.
        comesAt("G330wN#######k", 0, 8, 0);
        comesAt("G230wN####k", 0, 5, 1);
        comesAt("G230wN####k", 5, 0, 0);
        // B and K: K comes to B's colour, or not.
        comesAt("G330wB#######k", 0, 8, 0);
        comesAt("G330wB###.###k", 0, 8, 1);
        comesAt("G220wB.#k", 0, 3, 1);
        comesAt("G220wBk##", 0, 1, 0);
        comesAt("G220wBk#.", 0, 1, 1);
        // P aims slantwise from each place that it comes to, and p may come there.
        comesAt("G240wp......P", 7, 0, 1);
        comesAt("G240wp......P", 0, 7, 1);
        comesAt("G240w.p.....P", 7, 1, 0);
        comesAt("G240w..Pp....", 2, 3, 0);
        comesAt("G240wP......p", 0, 7, 0);
        comesAt("G240wP......p", 7, 0, 0);
        comesAt("G240w..P....p", 2, 7, 0);
        // Men between are nobody; the DEAD are.
        comesAt("G410wRPpr", 0, 3, 1);
        comesAt("G410wR##r", 0, 3, 0);
    }

    private static void comesAtRefused() {
        StayWhereFell game = Check.lie("G320wKR#kr.");
        for (int cell : NO_CELLS) {
            CHECK.due("22: from " + cell, game.comesAt(cell, 0), UNKNOWN);
            CHECK.due("22: at " + cell, game.comesAt(0, cell), UNKNOWN);
        }
        CHECK.due("22: UNKNOWN ahead of STATE", game.comesAt(2, 6), UNKNOWN);
        CHECK.due("22: both of one side", game.comesAt(0, 1), STATE);
        CHECK.due("22: both of BLACK", game.comesAt(3, 4), STATE);
        CHECK.due("22: the same", game.comesAt(0, 0), STATE);
        CHECK.due("22: a DEAD one", game.comesAt(0, 2), STATE);
        CHECK.due("22: a DEAD one", game.comesAt(2, 0), STATE);
        CHECK.due("22: nobody", game.comesAt(0, 5), STATE);
        CHECK.due("22: nobody", game.comesAt(5, 3), STATE);
        CHECK.due("22: both", game.comesAt(0, 3), 1);
    }

    private static void shut(String text, int want) {
        CHECK.due("23: " + text, Check.lie(text).shut(), want);
    }

    private static void shut() {
        shut("G110w.", 1);
        shut("G220w####", 1);
        shut("G210wKR", 1);
        shut("G210wKk", 0);
        shut("G310wK#k", 1);
        shut("G330wKK.###.rr", 1);
        shut("G330wKN.###.rr", 0);
        // One that can come at another is enough, of either side.
        shut("G230wN####k", 0);
        shut("G230wk####N", 0);
        shut("G230bn####K", 0);
        shut("G240w.p.....P", 1);
        shut("G240wp......P", 0);
        shut("G410wR##r", 1);
    }
}
