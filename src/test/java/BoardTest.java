/** Promises 31 to 38: the board. */
public final class BoardTest {
    private static final Class<IndexOutOfBoundsException> INDEX = IndexOutOfBoundsException.class;
    private static final Class<IllegalStateException> STATE = IllegalStateException.class;
    private static final int[] NO_PLACES = {-1, 4, 5, 16, Integer.MIN_VALUE, Integer.MAX_VALUE};

    private BoardTest() {
    }

    /** A board with these coins heads up, each told as ten times x, and y. */
    private static Gamefield with(int... places) {
        Gamefield x = new Gamefield();
        for (int place : places) {
            x.turn(place / 10, place % 10);
        }
        return x;
    }

    /** Turns coins until just those are heads up whose digit is 1, place 0, 0 being the least one. */
    private static void lay(Gamefield x, int board) {
        x.sweep();
        for (int place = 0; place < 16; place++) {
            if ((board >> place & 1) == 1) {
                x.turn(place / 4, place % 4);
            }
        }
    }

    private static void lies(String when, Gamefield x, int... places) {
        for (int p = 0; p < 16; p++) {
            boolean want = false;
            for (int place : places) {
                want |= place == p / 4 * 10 + p % 4;
            }
            Checks.due("isUp(" + p / 4 + ", " + p % 4 + ") " + when, x.isUp(p / 4, p % 4), want);
        }
    }

    private static void turn() {
        Checks.promise(31);
        Gamefield x = new Gamefield();
        Checks.due("turn(3, 1)", x.turn(3, 1), true);
        Checks.due("turn(0, 0)", x.turn(0, 0), true);
        lies("behind two turns", x, 31, 0);
        Checks.due("turn(3, 1) again", x.turn(3, 1), false);
        lies("behind three turns", x, 0);
        for (int n : NO_PLACES) {
            Checks.dueThrow(x, "turn(" + n + ", 0)", INDEX, () -> x.turn(n, 0));
            Checks.dueThrow(x, "turn(0, " + n + ")", INDEX, () -> x.turn(0, n));
        }

        Checks.promise(32);
        lies("with all up but one", with(1, 2, 3, 10, 11, 12, 13, 20, 21, 22, 23, 30, 31, 32, 33),
                1, 2, 3, 10, 11, 12, 13, 20, 21, 22, 23, 30, 31, 32, 33);
        for (int n : NO_PLACES) {
            Checks.dueThrow(x, "isUp(" + n + ", 0)", INDEX, () -> x.isUp(n, 0));
            Checks.dueThrow(x, "isUp(0, " + n + ")", INDEX, () -> x.isUp(0, n));
        }
    }

    private static void worth() {
        Checks.promise(33);
        Checks.due("worth() of none", new Gamefield().worth(), 0);
        Checks.due("worth() of 0, 3", with(3).worth(), 0);
        Checks.due("worth() of 1, 1", with(11).worth(), 1);
        Checks.due("worth() of 2, 2", with(22).worth(), 3);
        Checks.due("worth() of 2, 3", with(23).worth(), 1);
        Checks.due("worth() of 3, 3", with(33).worth(), 2);
        Checks.due("worth() of 2, 3 and 1, 1", with(23, 11).worth(), 0);
        Gamefield x = new Gamefield();
        for (int board = 0; board < 1 << 16; board++) {
            if (board % 16 == 0) {
                x = new Gamefield();
            }
            lay(x, board);
            Checks.due("worth() of board " + board, x.worth(), Model.worthTold(board));
        }
    }

    private static void plays() {
        Checks.promise(34);
        Checks.due("plays() of none", new Gamefield().plays(), 0);
        Checks.due("plays() of row and column 0", with(0, 1, 2, 3, 10, 20, 30).plays(), 0);
        Checks.due("plays() of 1, 1", with(11).plays(), 1);
        Checks.due("plays() of 2, 3", with(23).plays(), 6);
        Checks.due("plays() of 3, 3 and 1, 2", with(33, 12).plays(), 11);
        Gamefield all = new Gamefield();
        lay(all, 65535);
        Checks.due("plays() of all", all.plays(), 36);
    }

    private static void play() {
        Checks.promise(35);
        Gamefield x = with(32, 11);
        Checks.due("play(3, 2, 1, 1)", x.play(3, 2, 1, 1), 1);
        lies("behind play", x, 12, 31);
        Checks.due("play(3, 1, 0, 0)", x.play(3, 1, 0, 0), 2);
        lies("behind another play", x, 12, 1, 30, 0);
        Checks.dueThrow(x, "play(3, 3, 0, 0): tails up", STATE, () -> x.play(3, 3, 0, 0));
        Checks.dueThrow(x, "play(1, 2, 1, 0): left not below x", STATE, () -> x.play(1, 2, 1, 0));
        Checks.dueThrow(x, "play(1, 2, 3, 0): left above x", STATE, () -> x.play(1, 2, 3, 0));
        Checks.dueThrow(x, "play(1, 2, 0, 2): below not below y", STATE, () -> x.play(1, 2, 0, 2));
        Checks.dueThrow(x, "play(1, 2, 0, 3): below above y", STATE, () -> x.play(1, 2, 0, 3));
        Checks.dueThrow(x, "play(0, 0, 0, 0)", STATE, () -> x.play(0, 0, 0, 0));
        for (int n : NO_PLACES) {
            Checks.dueThrow(x, "play(" + n + ", 2, 0, 0)", INDEX, () -> x.play(n, 2, 0, 0));
            Checks.dueThrow(x, "play(1, " + n + ", 0, 0)", INDEX, () -> x.play(1, n, 0, 0));
            Checks.dueThrow(x, "play(1, 2, " + n + ", 0)", INDEX, () -> x.play(1, 2, n, 0));
            Checks.dueThrow(x, "play(1, 2, 0, " + n + ")", INDEX, () -> x.play(1, 2, 0, n));
            Checks.dueThrow(x, "play(3, 3, 0, " + n + ")", INDEX, () -> x.play(3, 3, 0, n));
        }
    }

    private static void bestAndAnswer() {
        Checks.promise(36);
        Checks.due("best() of none", new Gamefield().best(), Gamefield.NONE);
        Checks.due("best() of a board without a play", with(3, 30).best(), -1);
        Checks.due("best() of a board of WORTH 0", with(23, 11).best(), -1);
        Checks.due("best() of 1, 1", with(11).best(), 64 + 16);
        Checks.due("best() of 2, 2", with(22).best(), 128 + 32);
        // 3, 3 has WORTH 2, and so has what a play of 2, 2 with 0, 1 makes: 0, 2 and 2, 1 and 0, 1.
        Checks.due("best() of 3, 3 and 2, 2", with(33, 22).best(), 128 + 32 + 1);
        // The coin at 1, 1 has one play, behind which WORTH 2 is left; 3, 3 becomes WORTH 1 by 0, 2.
        Checks.due("best() of 3, 3 and 1, 1", with(33, 11).best(), 192 + 48 + 2);
        for (int board = 0; board < 1 << 16; board += 7) {
            Gamefield x = new Gamefield();
            lay(x, board);
            Model model = new Model();
            for (int place = 0; place < 16; place++) {
                if ((board >> place & 1) == 1) {
                    model.turn(place / 4, place % 4);
                }
            }
            Checks.due("best() of board " + board, x.best(), model.best());
        }

        Checks.promise(37);
        Gamefield y = with(33, 22);
        Checks.due("answer()", y.answer(), 128 + 32 + 1);
        lies("behind answer", y, 33, 2, 21, 1);
        Checks.due("worth() behind answer", y.worth(), 0);
        long before = y.checksum();
        Checks.due("answer() of a board of WORTH 0", y.answer(), -1);
        Checks.due("checksum() behind it", y.checksum(), before);
        Checks.due("answer() of none", new Gamefield().answer(), -1);
    }

    private static void sweep() {
        Checks.promise(38);
        Gamefield x = with(0, 33, 12);
        Checks.due("sweep()", x.sweep(), 3);
        lies("behind sweep", x);
        Checks.due("sweep() again", x.sweep(), 0);
        lay(x, 65535);
        Checks.due("sweep() of all", x.sweep(), 16);
    }

    public static void main(String[] args) {
        turn();
        worth();
        plays();
        play();
        bestAndAnswer();
        sweep();
        Checks.finish("BoardTest");
    }
}
