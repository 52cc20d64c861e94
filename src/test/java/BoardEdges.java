import java.util.function.Supplier;

/** The edges that section 3 of the Terms and promises 31 to 38 name: the board. */
final class BoardEdges {
    private static final Class<IndexOutOfBoundsException> INDEX = IndexOutOfBoundsException.class;
    private static final Class<IllegalStateException> STATE = IllegalStateException.class;
    /** Beside the edges, far out, and such as have the last digits of a place. */
    private static final int[] OFF_BOARD = {-1, 4, -4, 5, 15, 16, 256, Integer.MIN_VALUE, Integer.MAX_VALUE};
    private static final int[] WITHOUT_A_PLAY = {0, 1, 2, 3, 10, 20, 30};
    private static final int NONE = Gamefield.NONE;

    private BoardEdges() {
    }

    static void all() {
        tailsUpAtFirst();
        playsThereAre();
        playsTurnFour();
        codes();
        worthOfNoPlay();
        bestOfAll();
        turn();
        isUp();
        worth();
        plays();
        play();
        best();
        answer();
        sweep();
    }

    /** A board with these coins heads up, each told as ten times x, and y. */
    private static Gamefield with(int... places) {
        Gamefield x = new Gamefield();
        for (int place : places) {
            x.turn(place / 10, place % 10);
        }
        return x;
    }

    private static void lies(String when, Gamefield x, int... places) {
        for (int p = 0; p < 16; p++) {
            boolean want = false;
            for (int place : places) {
                want |= place == p / 4 * 10 + p % 4;
            }
            Checks.due("isUp(" + p / 4 + ", " + p % 4 + ") " + when, x.isUp(p / 4, p % 4), want);
        }
    }

    private static void tailsUpAtFirst() {
        Document.says("Terms 3",
                "The BOARD has a coin at each place x, y, with x and y from 0 to 3; all are tails up at first.");
        lies("at first", new Gamefield());
        for (int p = 0; p < 16; p++) {
            int place = p / 4 * 10 + p % 4;
            lies("behind turn of " + place, with(place), place);
        }
    }

    /** Each four of numbers 0 to 3, on a board with just the coin at x, y, and on the empty one. */
    private static void playsThereAre() {
        Document.says("Terms 3",
                "A PLAY takes a coin that is heads up, at x, y, an x' below x and a y' below y (both 0 or more)");
        for (int i = 0; i < 256; i++) {
            int x = i / 64;
            int y = i / 16 % 4;
            int left = i / 4 % 4;
            int below = i % 4;
            String call = "play(" + x + ", " + y + ", " + left + ", " + below + ")";
            Object alone = Checks.outcome(() -> with(10 * x + y).play(x, y, left, below));
            Checks.due(call + " with this coin alone answers", alone instanceof Integer, left < x && below < y);
            Object tails = Checks.outcome(() -> new Gamefield().play(x, y, left, below));
            Checks.due(call + " with all tails up", tails, STATE.getName());
        }
    }

    private static void playsTurnFour() {
        Document.says("Terms 3", "and turns the four coins at x, y, at x', y, at x, y' and at x', y'");
        Gamefield x = with(11);
        x.play(1, 1, 0, 0);
        lies("behind the least play", x, 1, 10, 0);
        Gamefield y = with(33);
        y.play(3, 3, 2, 2);
        lies("behind the greatest play", y, 23, 32, 22);
        Gamefield z = with(33, 3, 30, 0);
        z.play(3, 3, 0, 0);
        lies("behind a play that turns three to tails", z);
        Gamefield all = Refusals.full();
        all.play(3, 1, 2, 0);
        lies("behind a play of the full board", all, 0, 1, 2, 3, 10, 11, 12, 13, 22, 23, 32, 33);
    }

    private static void codes() {
        Document.says("Terms 3", "Its CODE is 64 x + 16 y + 4 x' + y'.");
        Checks.due("CODE of 1, 1, 0, 0, the least one", with(11).best(), 80);
        Checks.due("CODE of 1, 3, 0, 2", with(12, 13).best(), 64 + 48 + 2);
        Checks.due("CODE of 2, 1, 1, 0", with(11, 21).best(), 128 + 16 + 4);
        Checks.due("CODE of 2, 2, 1, 1", with(11, 22).best(), 128 + 32 + 4 + 1);
        Checks.due("CODE of 3, 1, 2, 0", with(12, 31).best(), 192 + 16 + 8);
        Checks.due("CODE of 3, 2, 1, 0", with(32, 33).best(), 192 + 32 + 4);
        // No BEST PLAY of any board has a greater CODE.
        Checks.due("CODE of 3, 3, 0, 2", with(11, 33).best(), 192 + 48 + 2);
    }

    private static void worthOfNoPlay() {
        Document.says("Terms 3",
                "The WORTH of a board is the least number (from 0 on) that is not the WORTH of a board");
        Checks.due("WORTH of 1, 1, with a play to WORTH 0", with(11).worth(), 1);
        Checks.due("WORTH of 1, 2 and 2, 1", with(12, 21).worth(), 0);
        Checks.due("WORTH of 2, 3, whose plays lead to 0, 2, 3", with(23).worth(), 1);
        Document.says("Terms 3", "of one from which no PLAY leads it is 0");
        Checks.due("WORTH of the empty board", new Gamefield().worth(), 0);
        Checks.due("WORTH of row and column 0", with(WITHOUT_A_PLAY).worth(), 0);
        Checks.due("WORTH of 0, 0", with(0).worth(), 0);
        Checks.due("WORTH of 3, 0", with(30).worth(), 0);
        Checks.due("WORTH of 0, 3", with(3).worth(), 0);
    }

    private static void bestOfAll() {
        Document.says("Terms 3", "The BEST PLAY is that with the least CODE of those that lead to a board WORTH 0.");
        Gamefield x = with(12, 21, 11);
        Checks.due("WORTH of 1, 2 and 2, 1 and 1, 1", x.worth(), 1);
        Checks.due("BEST PLAY of three that each have one to WORTH 0", x.best(), 80);
        Checks.due("WORTH behind it", x.play(1, 1, 0, 0), 0);
        Gamefield y = with(22, 23, 32);
        for (int code = 0; code < y.best(); code++) {
            int c = code;
            Gamefield z = with(22, 23, 32);
            Object worth = Checks.outcome(() -> z.play(c / 64, c / 16 % 4, c / 4 % 4, c % 4));
            Checks.due("whether a play with the lesser CODE " + code + " leads to WORTH 0", worth.equals(0), false);
        }
    }

    private static void turn() {
        Document.says(31, "Turns one coin.");
        Document.says(31, "Returns whether it is heads up then.");
        Gamefield x = new Gamefield();
        Checks.due("turn(0, 0)", x.turn(0, 0), true);
        Checks.due("turn(3, 3)", x.turn(3, 3), true);
        Checks.due("turn(0, 3)", x.turn(0, 3), true);
        lies("behind turn", x, 0, 3, 33);
        Checks.due("turn(0, 0) again", x.turn(0, 0), false);
        Checks.due("turn(3, 3) again", x.turn(3, 3), false);
        lies("behind turn again", x, 3);
        Document.says(31, "`x`: 0 to 3");
        Document.says(31, "`y`: 0 to 3");
        Document.says(31, "Throws `IndexOutOfBoundsException` if there is no such place");
        for (int n : OFF_BOARD) {
            for (int other : new int[] {0, 3, n}) {
                Refusals.refusedEverywhere("turn(" + n + ", " + other + ")", INDEX, y -> y.turn(n, other));
                Refusals.refusedEverywhere("turn(" + other + ", " + n + ")", INDEX, y -> y.turn(other, n));
            }
        }
    }

    private static void isUp() {
        Document.says(32, "Tells how a coin lies.");
        Document.says(32, "Returns whether it is heads up.");
        lies("on the full board", Refusals.full(), 0, 1, 2, 3, 10, 11, 12, 13, 20, 21, 22, 23, 30, 31, 32, 33);
        lies("with the first and the last one up", with(0, 33), 0, 33);
        Document.says(32, "`x`: 0 to 3");
        Document.says(32, "`y`: 0 to 3");
        Document.says(32, "Throws `IndexOutOfBoundsException` if there is no such place");
        for (int n : OFF_BOARD) {
            for (int other : new int[] {0, 3, n}) {
                Refusals.refusedEverywhere("isUp(" + n + ", " + other + ")", INDEX, y -> y.isUp(n, other));
                Refusals.refusedEverywhere("isUp(" + other + ", " + n + ")", INDEX, y -> y.isUp(other, n));
            }
        }
    }

    private static void worth() {
        Document.says(33, "Returns the WORTH of the board, all plays tried.");
        Document.says(33, "Returns the WORTH.");
        Checks.due("worth() of a board without a PLAY", with(WITHOUT_A_PLAY).worth(), 0);
        Checks.due("worth() of the empty board", new Gamefield().worth(), 0);
        Checks.due("worth() of the full board", Refusals.full().worth(), Model.worthTold(65535));
        Checks.due("worth() of 2, 2, the greatest of one coin", with(22).worth(), 3);
        Gamefield x = with(33, 12);
        x.worth();
        lies("behind worth", x, 33, 12);
    }

    private static void plays() {
        Document.says(34, "Counts the PLAYS that there are.");
        Document.says(34, "Returns how many there are.");
        Checks.due("plays() of the empty board", new Gamefield().plays(), 0);
        Checks.due("plays() of row and column 0", with(WITHOUT_A_PLAY).plays(), 0);
        Checks.due("plays() of the full board", Refusals.full().plays(), 36);
        for (int p = 0; p < 16; p++) {
            Checks.due("plays() of " + p / 4 + ", " + p % 4, with(p / 4 * 10 + p % 4).plays(), p / 4 * (p % 4));
        }
    }

    private static void play() {
        Document.says(35, "Makes a PLAY.");
        Document.says(35, "Returns the WORTH of the board then.");
        Checks.due("play(1, 1, 0, 0)", with(11).play(1, 1, 0, 0), 0);
        Checks.due("play(3, 3, 2, 2)", with(33).play(3, 3, 2, 2), 3 ^ 1 ^ 1);
        Checks.due("play(3, 3, 0, 0) to the empty board", with(33, 3, 30, 0).play(3, 3, 0, 0), 0);
        Document.says(35, "`x`: 0 to 3");
        Document.says(35, "`y`: 0 to 3");
        Document.says(35, "`left`: 0 to 3: the x' of the play");
        Document.says(35, "`below`: 0 to 3: the y' of the play");
        Document.says(35, "Throws `IndexOutOfBoundsException` if one of the four is out of range");
        for (int n : OFF_BOARD) {
            for (int other : new int[] {0, 3}) {
                offBoard(n, other, other, other);
                offBoard(other, n, other, other);
                offBoard(other, other, n, other);
                offBoard(other, other, other, n);
            }
            offBoard(3, 3, n, 0);
            offBoard(3, 3, 0, n);
            offBoard(n, 3, 0, 0);
            offBoard(3, n, 0, 0);
            offBoard(n, n, n, n);
        }
        noSuchPlay();
    }

    private static void offBoard(int x, int y, int left, int below) {
        String call = "play(" + x + ", " + y + ", " + left + ", " + below + ")";
        Refusals.refusedEverywhere(call, INDEX, z -> z.play(x, y, left, below));
    }

    private static void noSuchPlay() {
        Document.says(35, "if there is no such PLAY: the coin at x, y is tails up");
        Refusals.refused("play(3, 3, 0, 0) of the empty board", STATE, Gamefield::new, x -> x.play(3, 3, 0, 0));
        Refusals.refused("play(2, 2, 0, 0): tails up", STATE, Refusals::used, x -> x.play(2, 2, 0, 0));
        Refusals.refused("play(0, 1, 0, 0)", STATE, Refusals::used, x -> x.play(0, 1, 0, 0));
        Supplier<Gamefield> allBut33 = () -> {
            Gamefield x = Refusals.full();
            x.turn(3, 3);
            return x;
        };
        Refusals.refused("play(3, 3, 2, 2): it alone tails up", STATE, allBut33, x -> x.play(3, 3, 2, 2));
        Document.says(35, "or left is not below x, or below is not below y");
        int[][] none = {{1, 1, 1, 0}, {1, 1, 0, 1}, {1, 1, 1, 1}, {3, 3, 3, 0}, {3, 3, 0, 3}, {3, 3, 3, 3},
            {2, 2, 3, 0}, {2, 2, 0, 3}, {0, 0, 0, 0}, {0, 3, 0, 0}, {3, 0, 0, 0}, {1, 3, 2, 2}, {3, 1, 2, 2}};
        for (int[] p : none) {
            String call = "play(" + p[0] + ", " + p[1] + ", " + p[2] + ", " + p[3] + ") of the full board";
            Refusals.refused(call, STATE, Refusals::full, x -> x.play(p[0], p[1], p[2], p[3]));
        }
        Object there = Checks.outcome(() -> Refusals.full().play(3, 3, 2, 2));
        Checks.due("play(3, 3, 2, 2) of the full board", there, Model.worthTold(65535) ^ 2 ^ 1 ^ 1 ^ 3);
    }

    private static void best() {
        Document.says(36, "Returns the BEST PLAY.");
        Document.says(36, "Returns its CODE; NONE if there is none.");
        Checks.due("best() of the empty board", new Gamefield().best(), NONE);
        Checks.due("best() of row and column 0", with(WITHOUT_A_PLAY).best(), NONE);
        Checks.due("best() of a board WORTH 0 with PLAYS", with(12, 21).best(), NONE);
        Gamefield x = with(12, 21, 11);
        Checks.due("best() of 1, 2 and 2, 1 and 1, 1", x.best(), 80);
        lies("behind best", x, 12, 21, 11);
    }

    private static void answer() {
        Document.says(37, "Makes the BEST PLAY, if there is one.");
        Gamefield x = with(11);
        Checks.due("answer() of 1, 1", x.answer(), 80);
        lies("behind answer", x, 0, 1, 10);
        Gamefield y = with(11, 33);
        Checks.due("answer() of 1, 1 and 3, 3", y.answer(), 242);
        lies("behind the play 3, 3, 0, 2", y, 11, 3, 32, 2);
        Document.says(37, "Returns its CODE; NONE, and nothing is other, if there is none.");
        nothingIsOtherByAnswer("the empty board", Gamefield::new);
        nothingIsOtherByAnswer("row and column 0", () -> with(WITHOUT_A_PLAY));
        nothingIsOtherByAnswer("a board WORTH 0 with PLAYS", () -> with(12, 21));
        nothingIsOtherByAnswer("a full object with the board swept", () -> {
            Gamefield z = Refusals.full();
            z.sweep();
            return z;
        });
    }

    private static void nothingIsOtherByAnswer(String when, Supplier<Gamefield> led) {
        Gamefield asked = led.get();
        Checks.due("answer() of " + when, asked.answer(), NONE);
        Checks.due("answer() again of " + when, asked.answer(), NONE);
        Checks.due("later calls of " + when, Refusals.laterAnswers(asked), Refusals.laterAnswers(led.get()));
    }

    private static void sweep() {
        Document.says(38, "Turns all coins tails up.");
        Document.says(38, "Returns how many were heads up.");
        Checks.due("sweep() of the empty board", new Gamefield().sweep(), 0);
        Gamefield x = Refusals.full();
        Checks.due("sweep() of the full board", x.sweep(), 16);
        lies("behind sweep", x);
        Checks.due("sweep() again", x.sweep(), 0);
        Checks.due("size() behind sweep", x.size(), 256);
        Gamefield y = with(0, 33, 12);
        Checks.due("sweep() of three", y.sweep(), 3);
        Checks.due("turn(0, 0) behind sweep", y.turn(0, 0), true);
        Checks.due("sweep() of one", y.sweep(), 1);
    }
}
