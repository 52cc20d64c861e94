import java.util.List;
import java.util.TreeSet;
import java.util.function.BiFunction;

/** The edges that section 1 of the Terms and promises 15 to 18 name: the numbers. */
final class NumberEdges {
    private static final Class<IllegalArgumentException> ARGUMENT = IllegalArgumentException.class;
    /** Those that begin and end what is told of F and of the FIELDS, and those beside them. */
    private static final int[] AT_EDGES = {0, 1, 2, 3, 4, 5, 14, 15, 16, 17, 127, 128, 254, 255};

    private NumberEdges() {
    }

    static void all() {
        numbersAre0To255();
        sumByDigits();
        sumByTrying();
        productBy0And1();
        productByF();
        productByTrying();
        squareAndPowers();
        rootOfEach();
        quotientOfEach();
        orderOfEach();
        traceOfEach();
        fields();
        triedSum();
        triedProduct();
        times();
        isField();
    }

    private static Gamefield with(int... numbers) {
        Gamefield x = new Gamefield();
        for (int r = 0; r < numbers.length; r++) {
            x.set(r, numbers[r]);
        }
        return x;
    }

    private static int times(int a, int b) {
        return new Gamefield().times(a, b);
    }

    private static int sum(int a, int b) {
        return with(a, b).sum(2, 0, 1);
    }

    private static void numbersAre0To255() {
        Document.says("Terms 1", "NUMBERS are 0 to 255");
        Gamefield x = new Gamefield();
        Checks.due("set(0, 255)", x.set(0, 255), 0);
        Checks.due("set(0, 0)", x.set(0, 0), 255);
        Document.says("Terms 1",
                "what is below or above in this text is meant as in arithmetic, and in the order of numbers");
        x.put(128);
        x.put(127);
        x.put(255);
        Checks.due("numberAt(0) of 128, 127, 255", x.numberAt(0), 127);
        Checks.due("numberAt(1) of 128, 127, 255", x.numberAt(1), 128);
        Checks.due("numberAt(2) of 128, 127, 255", x.numberAt(2), 255);
    }

    private static void sumByDigits() {
        Document.says("Terms 1", "The SUM of two numbers has each binary digit 1 that is 1 in just one of both.");
        Checks.due("SUM of 0 and 0", sum(0, 0), 0);
        Checks.due("SUM of 0 and 255", sum(0, 255), 255);
        Checks.due("SUM of 255 and 255", sum(255, 255), 0);
        Checks.due("SUM of 128 and 128", sum(128, 128), 0);
        for (int digit = 1; digit < 256; digit *= 2) {
            Checks.due("SUM of 0 and " + digit, sum(0, digit), digit);
            Checks.due("SUM of " + digit + " and 255", sum(digit, 255), 255 - digit);
        }
    }

    private static void sumByTrying() {
        Document.says("Terms 1", "Their SUM by trying is the least number (from 0 on) that is neither");
        Gamefield x = new Gamefield();
        Checks.due("triedSum(0, 0), where nothing is made", x.triedSum(0, 0), 0);
        Checks.due("triedSum(0, 1), where 0 is made", x.triedSum(0, 1), 1);
        Checks.due("triedSum(1, 1), where 0 is not made", x.triedSum(1, 1), 0);
        for (int n : AT_EDGES) {
            Checks.due("triedSum(" + n + ", 0)", x.triedSum(n, 0), n);
            Checks.due("triedSum(0, " + n + ")", x.triedSum(0, n), n);
            Checks.due("triedSum(" + n + ", " + n + ")", x.triedSum(n, n), 0);
            Checks.due("triedSum(" + n + ", 255)", x.triedSum(n, 255), 255 - n);
        }
    }

    private static void productBy0And1() {
        Document.says("Terms 1", "The PRODUCT of two numbers is that of arithmetic, if one of them is 0 or 1.");
        Gamefield by0 = new Gamefield();
        Gamefield by1 = new Gamefield();
        for (int n = 0; n < 256; n++) {
            Checks.due("times(0, " + n + ")", by0.times(0, n), 0);
            Checks.due("times(" + n + ", 0)", by0.times(n, 0), 0);
            Checks.due("times(1, " + n + ")", by1.times(1, n), n);
            Checks.due("times(" + n + ", 1)", by1.times(n, 1), n);
        }
    }

    private static void productByF() {
        Document.says("Terms 1",
                "Otherwise F is the greatest one of 2, 4, 16 that is not above the greater one of both.");
        int[][] withTwoAtTheEdge = {{2, 2, 3}, {2, 3, 1}, {3, 3, 2}, {4, 2, 8}, {4, 4, 6}, {15, 4, 1}, {15, 15, 9},
            {16, 2, 32}, {16, 15, 240}, {16, 16, 24}, {17, 16, 8}, {255, 16, 2}, {255, 255, 156}};
        for (int[] row : withTwoAtTheEdge) {
            Checks.due("times(" + row[0] + ", " + row[1] + ")", times(row[0], row[1]), row[2]);
            Checks.due("times(" + row[1] + ", " + row[0] + ")", times(row[1], row[0]), row[2]);
        }
        Document.says("Terms 1",
                "The first number is F times h, and l, the second one F times g, and k, with l and k below F.");
        Document.says("Terms 1",
                "The PRODUCT is F times (as in arithmetic) the SUM of the PRODUCTS h g, h k and l g");
        for (int a : AT_EDGES) {
            for (int b : AT_EDGES) {
                Checks.due("times(" + a + ", " + b + ")", times(a, b), Model.productTold(a, b));
            }
        }
    }

    private static void productByTrying() {
        Document.says("Terms 1",
                "The PRODUCT by trying of a and b is the least number that is not the SUM of three PRODUCTS");
        Gamefield x = new Gamefield();
        for (int n = 0; n < 16; n++) {
            Checks.due("triedProduct(" + n + ", 0), where nothing is made", x.triedProduct(n, 0), 0);
            Checks.due("triedProduct(0, " + n + "), where nothing is made", x.triedProduct(0, n), 0);
            Checks.due("triedProduct(" + n + ", 1)", x.triedProduct(n, 1), n);
            Checks.due("triedProduct(1, " + n + ")", x.triedProduct(1, n), n);
            Checks.due("triedProduct(" + n + ", 15)", x.triedProduct(n, 15), Model.productTold(n, 15));
        }
    }

    private static void squareAndPowers() {
        Document.says("Terms 1", "The square of a number is its PRODUCT with itself");
        Document.says("Terms 1", "(to the 0th it is 1, also of 0)");
        for (int n : AT_EDGES) {
            Gamefield x = with(n);
            Checks.due(n + " to the 0th", x.power(1, 0, 0), 1);
            Checks.due(n + " to the 1st", x.power(1, 0, 1), n);
            Checks.due(n + " to the 2nd", x.power(1, 0, 2), Model.productTold(n, n));
        }
    }

    private static void rootOfEach() {
        Document.says("Terms 1", "The ROOT of a number is the number whose square it is.");
        Checks.due("ROOT of 0", with(0).root(1, 0), 0);
        Checks.due("ROOT of 1", with(1).root(1, 0), 1);
        for (int n : AT_EDGES) {
            int root = with(n).root(1, 0);
            Checks.due("square of the ROOT of " + n, times(root, root), n);
        }
    }

    private static void quotientOfEach() {
        Document.says("Terms 1", "The quotient of a by b, which is not 0, is the number whose PRODUCT with b is a.");
        for (int a : AT_EDGES) {
            Object by0 = Checks.outcome(() -> with(a, 0).quotient(2, 0, 1));
            Checks.due(a + " by 0", by0, "java.lang.ArithmeticException");
            for (int b : AT_EDGES) {
                if (b != 0) {
                    Checks.due(a + " by " + b + ", times " + b, times(with(a, b).quotient(2, 0, 1), b), a);
                }
            }
        }
    }

    private static void orderOfEach() {
        Document.says("Terms 1", "The ORDER of a number but 0 is the least n above 0 for which it is 1 to the n-th.");
        Checks.due("ORDER of 1", with(1).order(0), 1);
        TreeSet<Integer> orders = new TreeSet<>();
        for (int a = 1; a < 256; a++) {
            Gamefield x = with(a);
            int order = x.order(0);
            orders.add(order);
            Checks.due(a + " to its ORDER", x.power(1, 0, order), 1);
            Checks.due("whether a part of the ORDER does for " + a, isOneEarlier(x, order), false);
        }
        Checks.due("all ORDERS", List.copyOf(orders), List.of(1, 3, 5, 15, 17, 51, 85, 255));
    }

    private static boolean isOneEarlier(Gamefield x, int order) {
        boolean isOne = false;
        for (int part : new int[] {3, 5, 17}) {
            isOne |= order % part == 0 && x.power(1, 0, order / part) == 1;
        }
        return isOne;
    }

    private static void traceOfEach() {
        Document.says("Terms 1",
                "The TRACE of a number is the SUM of eight: of it, its square, the square of that, and so on.");
        int ones = 0;
        for (int a = 0; a < 256; a++) {
            int trace = with(a).trace(0);
            Checks.due("TRACE of " + a, trace, a < 128 ? 0 : 1);
            ones += trace;
        }
        Checks.due("how many have TRACE 1", ones, 128);
    }

    private static void fields() {
        Document.says("Terms 1", "The FIELDS are the sets of the numbers below 2, below 4, below 16 and below 256.");
        int[][] ends = {{0, 2}, {1, 2}, {2, 4}, {3, 4}, {4, 16}, {15, 16}, {16, 256}, {127, 256}, {128, 256},
            {255, 256}};
        for (int[] row : ends) {
            Checks.due("least one of the FIELDS of " + row[0], with(row[0]).field(0), row[1]);
        }
    }

    /** A call with two numbers takes those from 0 to most, and no other one, for each of both. */
    private static void takes0To(int most, String call, BiFunction<Gamefield, int[], Object> run) {
        int[][] inRange = {{0, 0}, {most, 0}, {0, most}, {most, most}};
        for (int[] ab : inRange) {
            Object answer = Checks.outcome(() -> run.apply(new Gamefield(), ab));
            Checks.due(call + "(" + ab[0] + ", " + ab[1] + ") is a number", answer instanceof Integer, true);
        }
        for (int n : new int[] {-1, most + 1, -256, 256, Integer.MIN_VALUE, Integer.MAX_VALUE}) {
            for (int[] ab : new int[][] {{n, 0}, {0, n}, {n, most}, {most, n}, {n, n}}) {
                Refusals.refusedEverywhere(call + "(" + ab[0] + ", " + ab[1] + ")", ARGUMENT, x -> run.apply(x, ab));
            }
        }
    }

    private static void triedSum() {
        Document.says(15, "Returns the SUM by trying.");
        Document.says(15, "Returns the least number that is not made, as section 1 tells.");
        Checks.due("triedSum(255, 255)", new Gamefield().triedSum(255, 255), 0);
        Checks.due("triedSum(254, 255)", new Gamefield().triedSum(254, 255), 1);
        Checks.due("triedSum(127, 128)", new Gamefield().triedSum(127, 128), 255);
        Document.says(15, "`a`: 0 to 255");
        Document.says(15, "`b`: 0 to 255");
        Document.says(15, "Throws `IllegalArgumentException` if a or b is out of range");
        takes0To(255, "triedSum", (x, ab) -> x.triedSum(ab[0], ab[1]));
    }

    private static void triedProduct() {
        Document.says(16, "Returns the PRODUCT by trying.");
        Document.says(16, "Returns the least number that is not made, as section 1 tells.");
        Checks.due("triedProduct(15, 15)", new Gamefield().triedProduct(15, 15), 9);
        Checks.due("triedProduct(14, 15)", new Gamefield().triedProduct(14, 15), 6);
        Document.says(16, "`a`: 0 to 15");
        Document.says(16, "`b`: 0 to 15");
        Document.says(16, "Throws `IllegalArgumentException` if a or b is out of range");
        takes0To(15, "triedProduct", (x, ab) -> x.triedProduct(ab[0], ab[1]));
    }

    private static void times() {
        Document.says(17, "Returns the PRODUCT.");
        Checks.due("times(255, 255)", times(255, 255), 156);
        Checks.due("times(16, 255)", times(16, 255), 2);
        Document.says(17, "`a`: 0 to 255");
        Document.says(17, "`b`: 0 to 255");
        Document.says(17, "Throws `IllegalArgumentException` if a or b is out of range");
        takes0To(255, "times", (x, ab) -> x.times(ab[0], ab[1]));
    }

    private static void isField() {
        Gamefield x = new Gamefield();
        Document.says(18, "whether 1 is below n");
        Checks.due("isField(1)", x.isField(1), false);
        Checks.due("isField(2)", x.isField(2), true);
        Document.says(18, "the SUM and the PRODUCT of each two of them are below n");
        Checks.due("isField(3)", x.isField(3), false);
        Checks.due("isField(4)", x.isField(4), true);
        Checks.due("isField(5)", x.isField(5), false);
        Checks.due("isField(8), where no SUM is above", x.isField(8), false);
        Checks.due("isField(15)", x.isField(15), false);
        Checks.due("isField(16)", x.isField(16), true);
        Document.says(18, "Returns whether they are.");
        Document.says(18, "`n`: 1 to 16");
        Document.says(18, "Throws `IllegalArgumentException` if n is out of range");
        for (int n : new int[] {0, 17, -1, 256, Integer.MIN_VALUE, Integer.MAX_VALUE}) {
            Refusals.refusedEverywhere("isField(" + n + ")", ARGUMENT, y -> y.isField(n));
        }
    }
}
