/** All that can be seen of an object, told as a text. The telling spends the object, in fewer than 512 calls. */
final class Seen {
    private static final String SOME = "G330w.........";

    private final StayWhereFell game;
    private final StringBuilder told = new StringBuilder();

    private Seen(StayWhereFell game) {
        this.game = game;
    }

    static String of(StayWhereFell game) {
        Seen seen = new Seen(game);
        seen.told.append("text ").append(game.count(0)).append(" fault ").append(game.fault());
        seen.lying();
        seen.told.append(" plies ").append(game.plies()).append(" odds ").append(game.odds(true));
        seen.told.append(" seed ").append(game.seed(0));
        seen.back();
        seen.kept();
        seen.text();
        return seen.told.toString();
    }

    private void lying() {
        String lies = Check.told(game);
        told.append(' ').append(lies).append(" row ").append(game.count(8)).append(" lost ").append(game.count(9));
        for (int i = lies.indexOf('#'); i >= 0; i = lies.indexOf('#', i + 1)) {
            told.append(" gone(").append(i - 5).append(") ").append(game.gone(i - 5));
        }
    }

    private void back() {
        for (int left = game.undo(); left >= 0; left = game.undo()) {
            told.append(" undone to ").append(left);
            lying();
        }
    }

    private void kept() {
        for (int slot = 0; slot < 2; slot++) {
            told.append(" slot ").append(slot).append(": ").append(game.again(slot));
            lying();
        }
    }

    /** What THE TEXT is, if it is a board or the beginning of one that is known. */
    private void text() {
        if (game.fault() == game.count(0)) {
            for (int i = game.count(0); i < SOME.length(); i++) {
                game.write(1, SOME.charAt(i));
            }
        }
        told.append(" text ").append(game.board());
        lying();
    }
}
