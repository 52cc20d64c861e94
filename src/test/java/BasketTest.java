/** Promises 19 to 30: the basket. */
public final class BasketTest {
    private static final Class<IndexOutOfBoundsException> INDEX = IndexOutOfBoundsException.class;
    private static final Class<IllegalArgumentException> ARGUMENT = IllegalArgumentException.class;
    private static final int[] NO_NUMBERS = {-1, 256, Integer.MIN_VALUE, Integer.MAX_VALUE};

    private BasketTest() {
    }

    private static Gamefield with(int... numbers) {
        Gamefield x = new Gamefield();
        for (int number : numbers) {
            x.put(number);
        }
        return x;
    }

    private static Gamefield withAllBelow(int end) {
        Gamefield x = new Gamefield();
        for (int number = 0; number < end; number++) {
            x.put(number);
        }
        return x;
    }

    private static void holds(String when, Gamefield x, int... want) {
        Checks.due("size() " + when, x.size(), want.length);
        for (int place = 0; place < want.length; place++) {
            int p = place;
            Checks.due("numberAt(" + p + ") " + when, Checks.outcome(() -> x.numberAt(p)), want[p]);
        }
    }

    private static void putAndTake() {
        Checks.promise(19);
        Gamefield x = new Gamefield();
        Checks.due("put(255)", x.put(255), true);
        Checks.due("put(255) again", x.put(255), false);
        Checks.due("put(0)", x.put(0), true);
        holds("behind put", x, 0, 255);
        for (int n : NO_NUMBERS) {
            Checks.dueThrow(x, "put(" + n + ")", ARGUMENT, () -> x.put(n));
        }

        Checks.promise(20);
        Checks.due("take(1)", x.take(1), false);
        for (int n : NO_NUMBERS) {
            Checks.due("take(" + n + ")", x.take(n), false);
        }
        holds("behind take of others", x, 0, 255);
        Checks.due("take(255)", x.take(255), true);
        Checks.due("take(255) again", x.take(255), false);
        holds("behind take", x, 0);
        Checks.due("take(0)", x.take(0), true);
        holds("behind take of the last", x);
    }

    private static void asked() {
        Gamefield x = with(200, 0, 3);
        Checks.promise(21);
        Checks.due("has(0)", x.has(0), true);
        Checks.due("has(3)", x.has(3), true);
        Checks.due("has(200)", x.has(200), true);
        Checks.due("has(1)", x.has(1), false);
        Checks.due("has(255)", x.has(255), false);
        for (int n : NO_NUMBERS) {
            Checks.due("has(" + n + ")", x.has(n), false);
        }

        Checks.promise(22);
        Checks.due("size()", x.size(), 3);
        Checks.due("size() of none", new Gamefield().size(), 0);
        Checks.due("size() of all", withAllBelow(256).size(), 256);

        Checks.promise(23);
        holds("put out of order", x, 0, 3, 200);
        for (int place : new int[] {-1, 3, 4, 200, 256, Integer.MIN_VALUE, Integer.MAX_VALUE}) {
            Checks.dueThrow(x, "numberAt(" + place + ")", INDEX, () -> x.numberAt(place));
        }
        Gamefield none = new Gamefield();
        Checks.dueThrow(none, "numberAt(0)", INDEX, () -> none.numberAt(0));
        Checks.due("numberAt(255) of all", withAllBelow(256).numberAt(255), 255);

        Checks.promise(24);
        Checks.due("leastOut()", x.leastOut(), 1);
        Checks.due("leastOut() of none", none.leastOut(), 0);
        Checks.due("leastOut() of 1", with(1).leastOut(), 0);
        Checks.due("leastOut() of all but 255", withAllBelow(255).leastOut(), 255);
        Checks.due("leastOut() of all", withAllBelow(256).leastOut(), 256);
    }

    private static void shift() {
        Checks.promise(25);
        Gamefield x = with(1, 2, 7);
        Checks.due("shift(0)", x.shift(0), 0);
        holds("behind shift(0)", x, 1, 2, 7);
        Checks.due("shift(3)", x.shift(3), 1);
        holds("behind shift(3)", x, 1, 2, 4);
        Checks.due("shift(255)", x.shift(255), 3);
        holds("behind shift(255)", x, 251, 253, 254);
        Checks.due("shift(9) of none", new Gamefield().shift(9), 0);
        Checks.due("shift(200) of all", withAllBelow(256).shift(200), 0);
        for (int n : NO_NUMBERS) {
            Checks.dueThrow(x, "shift(" + n + ")", ARGUMENT, () -> x.shift(n));
        }
    }

    private static void scale() {
        Checks.promise(26);
        Gamefield x = with(0, 1, 2, 3);
        Checks.due("scale(1)", x.scale(1), 4);
        holds("behind scale(1)", x, 0, 1, 2, 3);
        Checks.due("scale(16)", x.scale(16), 4);
        holds("behind scale(16)", x, 0, 16, 32, 48);
        Checks.due("scale(16) again", x.scale(16), 4);
        // 16 16 is 24, and with 24 the two others come as 24 2 and 24 3.
        holds("behind scale(16) again", x, 0, 24, 44, 52);
        Checks.due("scale(0)", x.scale(0), 1);
        holds("behind scale(0)", x, 0);
        Checks.due("scale(0) of none", new Gamefield().scale(0), 0);
        Checks.due("scale(255) of all", withAllBelow(256).scale(255), 256);
        for (int n : NO_NUMBERS) {
            Checks.dueThrow(x, "scale(" + n + ")", ARGUMENT, () -> x.scale(n));
        }
    }

    private static void span() {
        Checks.promise(27);
        Checks.due("rank() of none", new Gamefield().rank(), 0);
        Checks.due("rank() of 0", with(0).rank(), 0);
        Checks.due("rank() of 0, 1, 2, 3", with(0, 1, 2, 3).rank(), 2);
        Checks.due("rank() of 5, 6, 3", with(5, 6, 3).rank(), 2);
        Checks.due("rank() of 200, 101, 58, 17", with(200, 101, 58, 17).rank(), 4);
        Checks.due("rank() of all", withAllBelow(256).rank(), 8);

        Checks.promise(28);
        Gamefield x = with(5, 6);
        for (int n = 0; n < 256; n++) {
            boolean isSpanned = n == 0 || n == 3 || n == 5 || n == 6;
            Checks.due("isSpanned(" + n + ")", x.isSpanned(n), isSpanned);
        }
        holds("behind isSpanned", x, 5, 6);
        Checks.due("isSpanned(0) of none", new Gamefield().isSpanned(0), true);
        Checks.due("isSpanned(1) of none", new Gamefield().isSpanned(1), false);
        Checks.due("isSpanned(255) of eight", with(1, 2, 4, 8, 16, 32, 64, 128).isSpanned(255), true);
        for (int n : NO_NUMBERS) {
            Checks.dueThrow(x, "isSpanned(" + n + ")", ARGUMENT, () -> x.isSpanned(n));
        }

        Checks.promise(29);
        Checks.due("rank() stays", x.rank(), 2);
        holds("behind rank", x, 5, 6);
        Checks.due("close()", x.close(), 2);
        holds("behind close", x, 0, 3, 5, 6);
        Checks.due("close() again", x.close(), 0);
        Gamefield none = new Gamefield();
        Checks.due("close() of none", none.close(), 1);
        holds("behind close of none", none, 0);
        Gamefield eight = with(1, 2, 4, 8, 16, 32, 64, 128);
        Checks.due("close() of eight", eight.close(), 248);
        Checks.due("size() of their span", eight.size(), 256);
    }

    private static void clear() {
        Checks.promise(30);
        Gamefield x = with(1, 255);
        Checks.due("clear()", x.clear(), 2);
        holds("behind clear", x);
        Checks.due("clear() of none", x.clear(), 0);
        Checks.due("clear() of all", withAllBelow(256).clear(), 256);
    }

    public static void main(String[] args) {
        putAndTake();
        asked();
        shift();
        scale();
        span();
        clear();
        Checks.finish("BasketTest");
    }
}
