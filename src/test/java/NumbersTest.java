import java.util.function.IntBinaryOperator;

/** Promises 15 to 18: the numbers told. */
public final class NumbersTest {
    private static final Class<IllegalArgumentException> ARGUMENT = IllegalArgumentException.class;

    private NumbersTest() {
    }

    /** Calls it with each number that is out of its range, from 0 to most, at each side. */
    private static void outOfRange(Gamefield x, String call, int most, IntBinaryOperator run) {
        for (int n : new int[] {-1, most + 1, Integer.MIN_VALUE, Integer.MAX_VALUE}) {
            Checks.dueThrow(x, call + "(" + n + ", 0)", ARGUMENT, () -> run.applyAsInt(n, 0));
            Checks.dueThrow(x, call + "(0, " + n + ")", ARGUMENT, () -> run.applyAsInt(0, n));
            Checks.dueThrow(x, call + "(" + n + ", " + n + ")", ARGUMENT, () -> run.applyAsInt(n, n));
        }
    }

    private static void triedSum() {
        Checks.promise(15);
        Gamefield x = new Gamefield();
        Checks.due("triedSum(0, 0)", x.triedSum(0, 0), 0);
        Checks.due("triedSum(5, 3)", x.triedSum(5, 3), 6);
        Checks.due("triedSum(255, 254)", x.triedSum(255, 254), 1);
        Checks.due("triedSum(255, 0)", x.triedSum(255, 0), 255);
        Checks.due("triedSum(0, 255)", x.triedSum(0, 255), 255);
        Checks.due("triedSum(128, 127)", x.triedSum(128, 127), 255);
        Checks.due("triedSum(255, 255)", x.triedSum(255, 255), 0);
        for (int a = 0; a < 256; a += 15) {
            for (int b = 0; b < 256; b += 13) {
                Checks.due("triedSum(" + a + ", " + b + ")", new Gamefield().triedSum(a, b), a ^ b);
            }
        }
        outOfRange(x, "triedSum", 255, x::triedSum);
    }

    private static void triedProduct() {
        Checks.promise(16);
        for (int a = 0; a < 16; a++) {
            Gamefield x = new Gamefield();
            for (int b = 0; b < 16; b++) {
                Checks.due("triedProduct(" + a + ", " + b + ")", x.triedProduct(a, b), Model.productTold(a, b));
            }
        }
        Gamefield x = new Gamefield();
        Checks.due("triedProduct(2, 3)", x.triedProduct(2, 3), 1);
        Checks.due("triedProduct(15, 15)", x.triedProduct(15, 15), 9);
        outOfRange(x, "triedProduct", 15, x::triedProduct);
    }

    private static void times() {
        Checks.promise(17);
        for (int a = 0; a < 256; a++) {
            Gamefield x = new Gamefield();
            for (int b = 0; b < 256; b++) {
                Checks.due("times(" + a + ", " + b + ")", x.times(a, b), Model.productTold(a, b));
            }
        }
        Gamefield x = new Gamefield();
        Checks.due("times(16, 16)", x.times(16, 16), 24);
        Checks.due("times(16, 15)", x.times(16, 15), 240);
        Checks.due("times(255, 255)", x.times(255, 255), 156);
        Checks.due("times(0, 255)", x.times(0, 255), 0);
        Checks.due("times(255, 1)", x.times(255, 1), 255);
        outOfRange(x, "times", 255, x::times);
    }

    private static void isField() {
        Checks.promise(18);
        Gamefield x = new Gamefield();
        for (int n = 1; n <= 16; n++) {
            Checks.due("isField(" + n + ")", x.isField(n), n == 2 || n == 4 || n == 16);
        }
        for (int n : new int[] {0, -1, 17, 256, Integer.MIN_VALUE, Integer.MAX_VALUE}) {
            Checks.dueThrow(x, "isField(" + n + ")", ARGUMENT, () -> x.isField(n));
        }
    }

    public static void main(String[] args) {
        triedSum();
        triedProduct();
        times();
        isField();
        Checks.finish("NumbersTest");
    }
}
