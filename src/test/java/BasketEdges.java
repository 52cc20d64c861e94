import java.util.function.BiFunction;

/** The edges that section 2 of the Terms and promises 19 to 30 name: the basket. */
final class BasketEdges {
    private static final Class<IndexOutOfBoundsException> INDEX = IndexOutOfBoundsException.class;
    private static final Class<IllegalArgumentException> ARGUMENT = IllegalArgumentException.class;
    /** Beside the edges, far out, and such as have the last digits of a number. */
    private static final int[] NO_NUMBERS = {-1, 256, -256, -255, 511, Integer.MIN_VALUE, Integer.MAX_VALUE};

    private BasketEdges() {
    }

    static void all() {
        emptyAtFirst();
        sumsOfSome();
        spans();
        ranks();
        put();
        take();
        has();
        size();
        numberAt();
        leastOut();
        shift();
        scale();
        rank();
        isSpanned();
        close();
        clear();
    }

    private static Gamefield with(int... numbers) {
        Gamefield x = new Gamefield();
        for (int number : numbers) {
            x.put(number);
        }
        return x;
    }

    private static Gamefield withAll() {
        Gamefield x = new Gamefield();
        for (int number = 255; number >= 0; number--) {
            x.put(number);
        }
        return x;
    }

    private static Gamefield withAllBut(int number) {
        Gamefield x = withAll();
        x.take(number);
        return x;
    }

    private static void holds(String when, Gamefield x, int... want) {
        Checks.due("size() " + when, x.size(), want.length);
        for (int place = 0; place < want.length; place++) {
            int p = place;
            Checks.due("numberAt(" + p + ") " + when, Checks.outcome(() -> x.numberAt(p)), want[p]);
        }
    }

    private static void holdsAll(String when, Gamefield x) {
        Checks.due("size() " + when, x.size(), 256);
        Checks.due("leastOut() " + when, x.leastOut(), 256);
        for (int place = 0; place < 256; place += 17) {
            Checks.due("numberAt(" + place + ") " + when, x.numberAt(place), place);
        }
    }

    private static void emptyAtFirst() {
        Document.says("Terms 2", "The BASKET is a set of numbers, empty at first.");
        holds("at first", new Gamefield());
        Gamefield x = with(0, 0, 255, 255, 255);
        holds("of numbers put twice", x, 0, 255);
    }

    private static void sumsOfSome() {
        Document.says("Terms 2", "A SUM of some of its numbers is one of as many as one likes, each once at most");
        Document.says("Terms 2", "of one it is the number, of none 0");
        Checks.due("isSpanned(0) of none", new Gamefield().isSpanned(0), true);
        Checks.due("isSpanned(1) of none", new Gamefield().isSpanned(1), false);
        Checks.due("isSpanned(0) of 9", with(9).isSpanned(0), true);
        Checks.due("isSpanned(9) of 9", with(9).isSpanned(9), true);
        Checks.due("isSpanned(18) of 9: arithmetic is not meant", with(9).isSpanned(18), false);
        Checks.due("isSpanned(6) of 3, 5", with(3, 5).isSpanned(6), true);
        Checks.due("isSpanned(8) of 3, 5: arithmetic is not meant", with(3, 5).isSpanned(8), false);
        Checks.due("isSpanned(255) of eight", with(1, 2, 4, 8, 16, 32, 64, 128).isSpanned(255), true);
        Checks.due("isSpanned(255) of seven", with(1, 2, 4, 8, 16, 32, 64).isSpanned(255), false);
    }

    private static void spans() {
        Document.says("Terms 2", "Its SPAN is the set of all these SUMS.");
        Gamefield x = with(128, 127, 64);
        x.close();
        holds("behind close of 64, 127, 128", x, 0, 63, 64, 127, 128, 191, 192, 255);
    }

    private static void ranks() {
        Document.says("Terms 2",
                "Its RANK is how many of its numbers, from the least one on, are no SUM of some of those that "
                + "are less.");
        Checks.due("rank() of none", new Gamefield().rank(), 0);
        Checks.due("rank() of 0, which is the SUM of none", with(0).rank(), 0);
        Checks.due("rank() of 1", with(1).rank(), 1);
        Checks.due("rank() of 255", with(255).rank(), 1);
        Checks.due("rank() of 0, 255", with(0, 255).rank(), 1);
        Checks.due("rank() of 1, 2, 3", with(1, 2, 3).rank(), 2);
        Checks.due("rank() of 3, 2, 1", with(3, 2, 1).rank(), 2);
        Checks.due("rank() of 128, 192, 64", with(128, 192, 64).rank(), 2);
        Checks.due("rank() of 128 and what is less", Refusals.full().rank(), 8);
    }

    private static void put() {
        Document.says(19, "Puts a number into the basket.");
        Document.says(19, "Returns whether it was not in it.");
        Gamefield x = new Gamefield();
        for (int number : new int[] {0, 255, 127, 128}) {
            Checks.due("put(" + number + ")", x.put(number), true);
            Checks.due("put(" + number + ") again", x.put(number), false);
        }
        holds("behind put", x, 0, 127, 128, 255);
        Checks.due("put(255) into the full one", withAll().put(255), false);
        Checks.due("put(0) into the full one", withAll().put(0), false);
        Checks.due("put(255) into all but it", withAllBut(255).put(255), true);
        Document.says(19, "`number`: 0 to 255");
        Document.says(19, "Throws `IllegalArgumentException` if number is out of range");
        refused("put", (y, n) -> y.put(n));
    }

    private static void refused(String call, BiFunction<Gamefield, Integer, Object> run) {
        for (int n : NO_NUMBERS) {
            Refusals.refusedEverywhere(call + "(" + n + ")", ARGUMENT, x -> run.apply(x, n));
        }
    }

    private static void take() {
        Document.says(20, "Takes a number out of the basket.");
        Document.says(20, "Returns whether it was in it.");
        Gamefield x = with(0, 7, 255);
        Checks.due("take(0)", x.take(0), true);
        Checks.due("take(0) again", x.take(0), false);
        Checks.due("take(255)", x.take(255), true);
        Checks.due("take(255) again", x.take(255), false);
        holds("behind take", x, 7);
        Checks.due("take(7)", x.take(7), true);
        holds("behind take of the last one", x);
        Checks.due("take(7) from the empty one", x.take(7), false);
        Gamefield all = withAll();
        Checks.due("take(128) from the full one", all.take(128), true);
        Checks.due("leastOut() behind it", all.leastOut(), 128);
        Document.says(20, "`number`: any number");
        for (int n : NO_NUMBERS) {
            Gamefield y = Refusals.full();
            Checks.due("take(" + n + ") from the full one", Checks.outcome(() -> y.take(n)), false);
            Checks.due("take(" + n + ") from the empty one", Checks.outcome(() -> new Gamefield().take(n)), false);
            Checks.due("later calls behind take(" + n + ")",
                    Refusals.laterAnswers(y), Refusals.laterAnswers(Refusals.full()));
        }
    }

    private static void has() {
        Document.says(21, "Tells whether a number is in the basket.");
        Document.says(21, "Returns whether it is.");
        Gamefield x = with(0, 128);
        Checks.due("has(0)", x.has(0), true);
        Checks.due("has(1)", x.has(1), false);
        Checks.due("has(127)", x.has(127), false);
        Checks.due("has(128)", x.has(128), true);
        Checks.due("has(255)", x.has(255), false);
        Gamefield all = withAll();
        Checks.due("has(0) of the full one", all.has(0), true);
        Checks.due("has(255) of the full one", all.has(255), true);
        Checks.due("has(0) of the empty one", new Gamefield().has(0), false);
        Checks.due("has(255) of the empty one", new Gamefield().has(255), false);
        Document.says(21, "`number`: any number");
        for (int n : NO_NUMBERS) {
            Checks.due("has(" + n + ") of the full one", Checks.outcome(() -> all.has(n)), false);
            Checks.due("has(" + n + ") of the empty one", Checks.outcome(() -> new Gamefield().has(n)), false);
        }
    }

    private static void size() {
        Document.says(22, "Counts the numbers of the basket.");
        Document.says(22, "Returns how many there are.");
        Checks.due("size() of the empty one", new Gamefield().size(), 0);
        Checks.due("size() of 0", with(0).size(), 1);
        Checks.due("size() of 255, put twice", with(255, 255).size(), 1);
        Checks.due("size() of the full one", withAll().size(), 256);
        Checks.due("size() of all but 255", withAllBut(255).size(), 255);
        Checks.due("size() of all but 0", withAllBut(0).size(), 255);
    }

    private static void numberAt() {
        Document.says(23, "Returns a number of the basket.");
        Document.says(23, "`place`: 0 for the least one, 1 for the next one, and so on");
        Document.says(23, "Returns the number.");
        Gamefield x = with(255, 128, 127, 0);
        holds("put from the greatest one on", x, 0, 127, 128, 255);
        Gamefield all = withAll();
        for (int place = 0; place < 256; place++) {
            Checks.due("numberAt(" + place + ") of the full one", all.numberAt(place), place);
        }
        Checks.due("numberAt(254) of all but 0", withAllBut(0).numberAt(254), 255);
        Document.says(23, "Throws `IndexOutOfBoundsException` if there is no such place");
        for (int place : new int[] {-1, 256, 257, -256, Integer.MIN_VALUE, Integer.MAX_VALUE}) {
            Refusals.refusedEverywhere("numberAt(" + place + ")", INDEX, y -> y.numberAt(place));
        }
        Refusals.refused("numberAt(0) of the empty one", INDEX, Gamefield::new, y -> y.numberAt(0));
        Refusals.refused("numberAt(1) of one", INDEX, () -> with(1), y -> y.numberAt(1));
        Refusals.refused("numberAt(5) of five", INDEX, Refusals::used, y -> y.numberAt(5));
        Checks.due("numberAt(4) of five", Refusals.used().numberAt(4), 255);
        Gamefield but255 = withAllBut(255);
        Checks.due("numberAt(255) of all but 255", Checks.outcome(() -> but255.numberAt(255)), INDEX.getName());
        Checks.due("numberAt(254) of all but 255", but255.numberAt(254), 254);
    }

    private static void leastOut() {
        Document.says(24, "Returns the least number that is not in the basket.");
        Checks.due("leastOut() of the empty one", new Gamefield().leastOut(), 0);
        Checks.due("leastOut() of 1", with(1).leastOut(), 0);
        Checks.due("leastOut() of 0", with(0).leastOut(), 1);
        Checks.due("leastOut() of 0, 2", with(0, 2).leastOut(), 1);
        Checks.due("leastOut() of all but 0", withAllBut(0).leastOut(), 0);
        Checks.due("leastOut() of all but 128", withAllBut(128).leastOut(), 128);
        Document.says(24, "Returns the number; 256 if all are in it.");
        Checks.due("leastOut() of all but 255", withAllBut(255).leastOut(), 255);
        Checks.due("leastOut() of the full one", withAll().leastOut(), 256);
    }

    private static void shift() {
        Document.says(25, "Shifts the basket: in place of each of its numbers its SUM with one comes.");
        Document.says(25, "Returns how many numbers are in it then that were not in it before.");
        Document.says(25, "`number`: 0 to 255: this one");
        Gamefield x = with(0, 1, 255);
        Checks.due("shift(0)", x.shift(0), 0);
        holds("behind shift(0)", x, 0, 1, 255);
        Checks.due("shift(1)", x.shift(1), 1);
        holds("behind shift(1)", x, 0, 1, 254);
        Checks.due("shift(255)", x.shift(255), 1);
        holds("behind shift(255)", x, 1, 254, 255);
        Checks.due("shift(1) again", x.shift(1), 1);
        holds("behind the last shift", x, 0, 254, 255);
        Gamefield none = new Gamefield();
        Checks.due("shift(255) of the empty one", none.shift(255), 0);
        holds("behind shift of the empty one", none);
        Gamefield all = withAll();
        Checks.due("shift(255) of the full one", all.shift(255), 0);
        holdsAll("behind shift of the full one", all);
        Document.says(25, "Throws `IllegalArgumentException` if number is out of range");
        refused("shift", (y, n) -> y.shift(n));
    }

    private static void scale() {
        Document.says(26, "Scales the basket: in place of each of its numbers its PRODUCT with one comes.");
        Document.says(26, "Returns how many numbers it has then.");
        Document.says(26, "`number`: 0 to 255: this one");
        Gamefield x = with(1, 2, 255);
        Checks.due("scale(1)", x.scale(1), 3);
        holds("behind scale(1)", x, 1, 2, 255);
        Checks.due("scale(255)", x.scale(255), 3);
        Checks.due("has(255), which is 1 by 255", x.has(255), true);
        Checks.due("has(156), which is 255 by 255", x.has(156), true);
        Checks.due("has(2 by 255)", x.has(Model.productTold(2, 255)), true);
        Checks.due("scale(0)", x.scale(0), 1);
        holds("behind scale(0)", x, 0);
        Checks.due("scale(0) of 0", x.scale(0), 1);
        Checks.due("scale(255) of 0", x.scale(255), 1);
        Gamefield none = new Gamefield();
        Checks.due("scale(0) of the empty one", none.scale(0), 0);
        Checks.due("scale(255) of the empty one", none.scale(255), 0);
        holds("behind scale of the empty one", none);
        Gamefield all = withAll();
        Checks.due("scale(255) of the full one", all.scale(255), 256);
        holdsAll("behind scale(255) of the full one", all);
        Checks.due("scale(0) of the full one", all.scale(0), 1);
        holds("behind scale(0) of the full one", all, 0);
        Document.says(26, "Throws `IllegalArgumentException` if number is out of range");
        refused("scale", (y, n) -> y.scale(n));
    }

    private static void rank() {
        Document.says(27, "Returns the RANK of the basket.");
        Document.says(27, "Returns the RANK.");
        Checks.due("rank() of the empty one", new Gamefield().rank(), 0);
        Checks.due("rank() of the full one", withAll().rank(), 8);
        Checks.due("rank() of all but 1", withAllBut(1).rank(), 8);
        Gamefield x = with(200, 100, 172);
        Checks.due("rank() of 200, 100 and their SUM", x.rank(), 2);
        holds("behind rank", x, 100, 172, 200);
    }

    private static void isSpanned() {
        Document.says(28, "Tells whether a number is in the SPAN of the basket.");
        Document.says(28, "Returns whether it is.");
        Gamefield none = new Gamefield();
        Gamefield all = withAll();
        for (int n = 0; n < 256; n++) {
            Checks.due("isSpanned(" + n + ") of the empty one", none.isSpanned(n), n == 0);
            if (n > 200) {
                Checks.due("isSpanned(" + n + ") of the full one", all.isSpanned(n), true);
            }
        }
        Checks.due("size() behind isSpanned", none.size(), 0);
        Document.says(28, "`number`: 0 to 255");
        Checks.due("isSpanned(255) of 255", with(255).isSpanned(255), true);
        Checks.due("isSpanned(0) of 255", with(255).isSpanned(0), true);
        Document.says(28, "Throws `IllegalArgumentException` if number is out of range");
        refused("isSpanned", (y, n) -> y.isSpanned(n));
    }

    private static void close() {
        Document.says(29, "Closes the basket: its SPAN comes in its place.");
        Document.says(29, "Returns how many numbers came.");
        Gamefield none = new Gamefield();
        Checks.due("close() of the empty one", none.close(), 1);
        holds("behind close of the empty one", none, 0);
        Checks.due("close() of 0", none.close(), 0);
        holds("behind close of 0", none, 0);
        Gamefield one = with(255);
        Checks.due("close() of 255", one.close(), 1);
        holds("behind close of 255", one, 0, 255);
        Gamefield eight = with(1, 2, 4, 8, 16, 32, 64, 128);
        Checks.due("close() of eight", eight.close(), 248);
        holdsAll("behind close of eight", eight);
        Checks.due("close() of the full one", eight.close(), 0);
        holdsAll("behind close of the full one", eight);
        Gamefield but0 = withAllBut(0);
        Checks.due("close() of all but 0", but0.close(), 1);
        holdsAll("behind close of all but 0", but0);
    }

    private static void clear() {
        Document.says(30, "Empties the basket.");
        Document.says(30, "Returns how many numbers it had.");
        Gamefield all = withAll();
        Checks.due("clear() of the full one", all.clear(), 256);
        holds("behind clear", all);
        Checks.due("clear() of the empty one", all.clear(), 0);
        Checks.due("put(255) behind clear", all.put(255), true);
        Checks.due("clear() of 255", all.clear(), 1);
        Checks.due("clear() of 0", with(0).clear(), 1);
        Checks.due("clear() of a new object", new Gamefield().clear(), 0);
    }
}
