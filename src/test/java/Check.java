/** What the tests share: answers that are due, and boards told as texts. */
final class Check {
    private int wrong = 0;
    private int calls = 0;

    void due(String call, long got, long want) {
        calls++;
        if (got != want) {
            wrong++;
            if (wrong <= 20) {
                System.out.println(call + " answered " + got + ", due is " + want);
            }
        }
    }

    /** Ends the program: with exit code 1, if an answer was not as due. */
    void end(String what) {
        System.out.println(what + ": " + calls + " answers, " + wrong + " not as due");
        if (wrong != 0) {
            System.exit(1);
        }
    }

    static void tell(StayWhereFell game, String text) {
        game.wipe();
        for (int i = 0; i < text.length(); i++) {
            game.write(1, text.charAt(i));
        }
    }

    static StayWhereFell lie(String text) {
        StayWhereFell game = new StayWhereFell();
        tell(game, text);
        if (game.board() < 1) {
            throw new IllegalArgumentException(text + " is no board");
        }
        return game;
    }

    /** The board as it lies, as a text. */
    static String told(StayWhereFell game) {
        StringBuilder text = new StringBuilder("G");
        text.append(game.count(1)).append(game.count(2)).append(game.count(3));
        text.append(game.count(4) == 0 ? 'w' : 'b');
        for (int cell = 0; game.cell(cell) >= 0; cell++) {
            text.append((char) game.cell(cell));
        }
        return text.toString();
    }

    void lies(String call, StayWhereFell game, String want) {
        String got = told(game);
        if (!got.equals(want)) {
            System.out.println(call + ": it lies " + got);
        }
        due(call + ": it lies as " + want, got.equals(want) ? 1 : 0, 1);
    }

    static int cells(int... cells) {
        int bits = 0;
        for (int cell : cells) {
            bits |= 1 << cell;
        }
        return bits;
    }
}
