import java.util.NoSuchElementException;

/** Promises 1 to 14: a new object, the changes of the registers, and what is asked of them. */
public final class RegistersTest {
    private static final Class<IndexOutOfBoundsException> INDEX = IndexOutOfBoundsException.class;
    private static final Class<IllegalArgumentException> ARGUMENT = IllegalArgumentException.class;
    private static final Class<ArithmeticException> ARITHMETIC = ArithmeticException.class;
    private static final int[] NO_REGISTERS = {-1, 8, 9, Integer.MIN_VALUE, Integer.MAX_VALUE};

    private RegistersTest() {
    }

    /** An object with these numbers in registers 0, 1, 2 and so on. */
    private static Gamefield with(int... numbers) {
        Gamefield x = new Gamefield();
        for (int r = 0; r < numbers.length; r++) {
            x.set(r, numbers[r]);
        }
        return x;
    }

    private static void newObject() {
        Checks.promise(1);
        Gamefield x = new Gamefield();
        for (int r = 0; r < 8; r++) {
            Checks.due("at(" + r + ")", x.at(r), 0);
        }
        Checks.due("undo()", x.undo(), Gamefield.NONE);
        Checks.due("size()", x.size(), 0);
        for (int p = 0; p < 16; p++) {
            Checks.due("isUp(" + p / 4 + ", " + p % 4 + ")", x.isUp(p / 4, p % 4), false);
        }
        Checks.due("NONE", Gamefield.NONE, -1);
        Gamefield other = new Gamefield();
        x.set(0, 1);
        x.put(1);
        x.turn(0, 0);
        Checks.due("another object's at(0)", other.at(0), 0);
        Checks.due("another object's size()", other.size(), 0);
        Checks.due("another object's isUp(0, 0)", other.isUp(0, 0), false);
    }

    private static void set() {
        Checks.promise(2);
        Gamefield x = new Gamefield();
        Checks.due("set(7, 255)", x.set(7, 255), 0);
        Checks.due("set(7, 0)", x.set(7, 0), 255);
        Checks.due("set(0, 9)", x.set(0, 9), 0);
        Checks.due("at(0)", x.at(0), 9);
        for (int r : NO_REGISTERS) {
            Checks.dueThrow(x, "set(" + r + ", 1)", INDEX, () -> x.set(r, 1));
            Checks.dueThrow(x, "set(" + r + ", 256)", INDEX, () -> x.set(r, 256));
        }
        for (int n : new int[] {-1, 256, Integer.MIN_VALUE, Integer.MAX_VALUE}) {
            Checks.dueThrow(x, "set(0, " + n + ")", ARGUMENT, () -> x.set(0, n));
        }
    }

    private static void sum() {
        Checks.promise(3);
        Gamefield x = with(5, 3, 255);
        Checks.due("sum(3, 0, 1)", x.sum(3, 0, 1), 6);
        Checks.due("at(3)", x.at(3), 6);
        Checks.due("sum(0, 0, 2)", x.sum(0, 0, 2), 250);
        Checks.due("at(0)", x.at(0), 250);
        Checks.due("sum(1, 1, 1)", x.sum(1, 1, 1), 0);
        Checks.due("at(1)", x.at(1), 0);
        for (int r : NO_REGISTERS) {
            Checks.dueThrow(x, "sum(" + r + ", 0, 0)", INDEX, () -> x.sum(r, 0, 0));
            Checks.dueThrow(x, "sum(0, " + r + ", 0)", INDEX, () -> x.sum(0, r, 0));
            Checks.dueThrow(x, "sum(0, 0, " + r + ")", INDEX, () -> x.sum(0, 0, r));
        }
    }

    private static void product() {
        Checks.promise(4);
        Gamefield x = with(16, 15, 255, 1);
        Checks.due("product(4, 0, 0)", x.product(4, 0, 0), 24);
        Checks.due("at(4)", x.at(4), 24);
        Checks.due("product(5, 0, 1)", x.product(5, 0, 1), 240);
        Checks.due("product(2, 2, 2)", x.product(2, 2, 2), 156);
        Checks.due("at(2)", x.at(2), 156);
        Checks.due("product(6, 2, 3)", x.product(6, 2, 3), 156);
        Checks.due("product(6, 2, 7)", x.product(6, 2, 7), 0);
        for (int r : NO_REGISTERS) {
            Checks.dueThrow(x, "product(" + r + ", 0, 0)", INDEX, () -> x.product(r, 0, 0));
            Checks.dueThrow(x, "product(0, " + r + ", 0)", INDEX, () -> x.product(0, r, 0));
            Checks.dueThrow(x, "product(0, 0, " + r + ")", INDEX, () -> x.product(0, 0, r));
        }
    }

    private static void quotient() {
        Checks.promise(5);
        Gamefield x = with(24, 16, 0, 1, 3, 2);
        Checks.due("quotient(6, 0, 1)", x.quotient(6, 0, 1), 16);
        Checks.due("at(6)", x.at(6), 16);
        Checks.due("quotient(6, 3, 4)", x.quotient(6, 3, 4), 2);
        Checks.due("quotient(6, 2, 4)", x.quotient(6, 2, 4), 0);
        Checks.due("quotient(5, 5, 5)", x.quotient(5, 5, 5), 1);
        Checks.due("at(5)", x.at(5), 1);
        Checks.dueThrow(x, "quotient(6, 0, 2)", ARITHMETIC, () -> x.quotient(6, 0, 2));
        Checks.dueThrow(x, "quotient(6, 2, 2)", ARITHMETIC, () -> x.quotient(6, 2, 2));
        for (int r : NO_REGISTERS) {
            Checks.dueThrow(x, "quotient(" + r + ", 0, 2)", INDEX, () -> x.quotient(r, 0, 2));
            Checks.dueThrow(x, "quotient(0, " + r + ", 2)", INDEX, () -> x.quotient(0, r, 2));
            Checks.dueThrow(x, "quotient(0, 0, " + r + ")", INDEX, () -> x.quotient(0, 0, r));
        }
        Gamefield y = new Gamefield();
        int a = 0;
        for (int b = 1; b < 128; b++) {
            a = (a + 37) % 256;
            y.set(0, a);
            y.set(1, b);
            int q = y.quotient(2, 0, 1);
            Checks.due("product of quotient of " + a + " by " + b, Model.productTold(q, b), a);
        }
    }

    private static void power() {
        Checks.promise(6);
        Gamefield x = with(2, 0, 128, 255);
        Checks.due("power(4, 0, 3)", x.power(4, 0, 3), 1);
        Checks.due("at(4)", x.at(4), 1);
        Checks.due("power(4, 0, 2)", x.power(4, 0, 2), 3);
        Checks.due("power(4, 0, 1)", x.power(4, 0, 1), 2);
        Checks.due("power(4, 0, 0)", x.power(4, 0, 0), 1);
        Checks.due("power(4, 1, 0)", x.power(4, 1, 0), 1);
        Checks.due("power(4, 1, 1)", x.power(4, 1, 1), 0);
        Checks.due("power(4, 1, 2147483647)", x.power(4, 1, Integer.MAX_VALUE), 0);
        Checks.due("power(4, 2, 255)", x.power(4, 2, 255), 1);
        Checks.due("power(4, 2, 256)", x.power(4, 2, 256), 128);
        Checks.due("power(4, 3, 2)", x.power(4, 3, 2), 156);
        // 2147483647 is 127, and a multiple of 255.
        Checks.due("power(5, 3, 127)", x.power(5, 3, 127), x.power(6, 3, Integer.MAX_VALUE));
        Checks.due("power(3, 3, 2)", x.power(3, 3, 2), 156);
        Checks.due("at(3)", x.at(3), 156);
        Checks.dueThrow(x, "power(0, 0, -1)", ARGUMENT, () -> x.power(0, 0, -1));
        Checks.dueThrow(x, "power(0, 0, MIN)", ARGUMENT, () -> x.power(0, 0, Integer.MIN_VALUE));
        for (int r : NO_REGISTERS) {
            Checks.dueThrow(x, "power(" + r + ", 0, -1)", INDEX, () -> x.power(r, 0, -1));
            Checks.dueThrow(x, "power(0, " + r + ", -1)", INDEX, () -> x.power(0, r, -1));
        }
    }

    private static void root() {
        Checks.promise(7);
        Gamefield x = with(17);
        Checks.due("root(0, 0)", x.root(0, 0), 31);
        Checks.due("root(0, 0)", x.root(0, 0), 21);
        Checks.due("at(0)", x.at(0), 21);
        Checks.due("root(3, 4)", x.root(3, 4), 0);
        for (int a = 0; a < 256; a++) {
            x.set(1, a);
            int root = x.root(2, 1);
            Checks.due("square of the root of " + a, Model.productTold(root, root), a);
        }
        Gamefield y = with(3);
        for (int r : NO_REGISTERS) {
            Checks.dueThrow(y, "root(" + r + ", 0)", INDEX, () -> y.root(r, 0));
            Checks.dueThrow(y, "root(0, " + r + ")", INDEX, () -> y.root(0, r));
        }
    }

    private static void solve() {
        Checks.promise(8);
        Gamefield x = with(3, 0, 128);
        Checks.due("solve(4, 0, false)", x.solve(4, 0, false), 6);
        Checks.due("at(4)", x.at(4), 6);
        Checks.due("solve(4, 0, true)", x.solve(4, 0, true), 7);
        Checks.due("at(4)", x.at(4), 7);
        Checks.due("solve(5, 1, false)", x.solve(5, 1, false), 0);
        Checks.due("solve(5, 1, true)", x.solve(5, 1, true), 1);
        Checks.due("solve(0, 0, true)", x.solve(0, 0, true), 7);
        Checks.due("at(0)", x.at(0), 7);
        Checks.dueThrow(x, "solve(5, 2, false)", NoSuchElementException.class, () -> x.solve(5, 2, false));
        Checks.dueThrow(x, "solve(5, 2, true)", NoSuchElementException.class, () -> x.solve(5, 2, true));
        for (int r : NO_REGISTERS) {
            Checks.dueThrow(x, "solve(" + r + ", 2, true)", INDEX, () -> x.solve(r, 2, true));
            Checks.dueThrow(x, "solve(0, " + r + ", true)", INDEX, () -> x.solve(0, r, true));
        }
    }

    private static void undo() {
        Checks.promise(9);
        Gamefield x = new Gamefield();
        Checks.due("undo()", x.undo(), -1);
        x.set(1, 10);
        x.set(2, 0);
        x.put(3);
        x.turn(1, 1);
        Checks.due("undo() of a change by which all stayed", x.undo(), 2);
        Checks.due("undo()", x.undo(), 1);
        Checks.due("at(1)", x.at(1), 0);
        Checks.due("undo()", x.undo(), -1);
        Checks.due("size()", x.size(), 1);
        Checks.due("isUp(1, 1)", x.isUp(1, 1), true);
        Checks.outcome(() -> x.set(1, 256));
        Checks.outcome(() -> x.quotient(0, 0, 0));
        Checks.due("undo() behind calls that throw", x.undo(), -1);

        Gamefield y = new Gamefield();
        for (int n = 1; n <= 10; n++) {
            y.set(n % 8, n);
        }
        for (int n = 10; n > 2; n--) {
            Checks.due("undo() of change " + n, y.undo(), n % 8);
        }
        Checks.due("undo() behind eight", y.undo(), -1);
        int[] left = {0, 1, 2, 0, 0, 0, 0, 0};
        for (int r = 0; r < 8; r++) {
            Checks.due("at(" + r + ")", y.at(r), left[r]);
        }
        everyChangeIsKept();
    }

    private static void everyChangeIsKept() {
        Gamefield x = with(3);
        for (int i = 0; i < 8; i++) {
            x.undo();
        }
        x.set(0, 3);
        x.sum(1, 0, 0);
        x.product(2, 0, 0);
        x.quotient(3, 0, 0);
        x.power(4, 0, 2);
        x.root(5, 0);
        x.solve(6, 0, true);
        for (int r = 6; r >= 0; r--) {
            Checks.due("undo() of the change of " + r, x.undo(), r);
            Checks.due("at(" + r + ")", x.at(r), 0);
        }
        Checks.due("undo()", x.undo(), -1);
    }

    private static void at() {
        Checks.promise(10);
        Gamefield x = with(1, 2, 4, 8, 16, 32, 64, 128);
        for (int r = 0; r < 8; r++) {
            Checks.due("at(" + r + ")", x.at(r), 1 << r);
        }
        for (int r : NO_REGISTERS) {
            Checks.dueThrow(x, "at(" + r + ")", INDEX, () -> x.at(r));
        }
    }

    private static void trace() {
        Checks.promise(11);
        Gamefield x = with(2, 3, 128, 0, 1, 127, 129);
        int[] want = {0, 0, 1, 0, 0, 0, 1};
        for (int r = 0; r < want.length; r++) {
            Checks.due("trace(" + r + ")", x.trace(r), want[r]);
        }
        for (int r : NO_REGISTERS) {
            Checks.dueThrow(x, "trace(" + r + ")", INDEX, () -> x.trace(r));
        }
    }

    private static void order() {
        Checks.promise(12);
        Gamefield x = with(1, 2, 3, 128, 0);
        int[] want = {1, 3, 3, 85};
        for (int r = 0; r < want.length; r++) {
            Checks.due("order(" + r + ")", x.order(r), want[r]);
        }
        Checks.dueThrow(x, "order(4)", ARITHMETIC, () -> x.order(4));
        for (int r : NO_REGISTERS) {
            Checks.dueThrow(x, "order(" + r + ")", INDEX, () -> x.order(r));
        }
        // In a field of 256 there are as many numbers of order 255 as numbers below it share no part with it.
        Gamefield y = new Gamefield();
        int full = 0;
        for (int a = 1; a < 256; a++) {
            y.set(0, a);
            int order = y.order(0);
            full += order == 255 ? 1 : 0;
            Checks.due("255 by order of " + a, 255 % order, 0);
        }
        Checks.due("how many have order 255", full, 128);
    }

    private static void field() {
        Checks.promise(13);
        Gamefield x = with(0, 1, 2, 3, 4, 15, 16, 255);
        int[] want = {2, 2, 4, 4, 16, 16, 256, 256};
        for (int r = 0; r < want.length; r++) {
            Checks.due("field(" + r + ")", x.field(r), want[r]);
        }
        for (int r : NO_REGISTERS) {
            Checks.dueThrow(x, "field(" + r + ")", INDEX, () -> x.field(r));
        }
    }

    private static void squarings() {
        Checks.promise(14);
        Gamefield x = with(0, 1, 2, 3, 4, 15, 16, 255);
        int[] want = {1, 1, 2, 2, 4, 4, 8, 8};
        for (int r = 0; r < want.length; r++) {
            long before = x.checksum();
            Checks.due("squarings(" + r + ")", x.squarings(r), want[r]);
            Checks.due("checksum()", x.checksum(), before);
        }
        for (int r : NO_REGISTERS) {
            Checks.dueThrow(x, "squarings(" + r + ")", INDEX, () -> x.squarings(r));
        }
    }

    public static void main(String[] args) {
        newObject();
        set();
        sum();
        product();
        quotient();
        power();
        root();
        solve();
        undo();
        at();
        trace();
        order();
        field();
        squarings();
        Checks.finish("RegistersTest");
    }
}
