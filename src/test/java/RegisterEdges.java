import java.math.BigInteger;
import java.util.Arrays;
import java.util.NoSuchElementException;
import java.util.function.Function;
import java.util.function.Supplier;

/** The edges that section 2 of the Terms and promises 1 to 14 name: the registers and their changes. */
final class RegisterEdges {
    private static final Class<IndexOutOfBoundsException> INDEX = IndexOutOfBoundsException.class;
    private static final Class<IllegalArgumentException> ARGUMENT = IllegalArgumentException.class;
    private static final Class<ArithmeticException> ARITHMETIC = ArithmeticException.class;
    /** Beside the edges, far out, and such as have the last digits of a register. */
    static final int[] NO_REGISTERS = {-1, 8, -8, 15, 16, 256, Integer.MIN_VALUE, Integer.MAX_VALUE};
    private static final int NONE = Gamefield.NONE;

    private RegisterEdges() {
    }

    static void all() {
        newObject();
        registers0To7();
        set();
        sum();
        product();
        quotient();
        power();
        root();
        solve();
        changesAreKept();
        unchangedRegisterIsKept();
        othersAreNoChanges();
        refusedCallsAreNoChanges();
        noneIsKept();
        eightAreKept();
        theNinthIsNot();
        undoneIsNotKept();
        asked();
        order();
        squarings();
    }

    private static Gamefield with(int... numbers) {
        Gamefield x = new Gamefield();
        for (int r = 0; r < numbers.length; r++) {
            x.set(r, numbers[r]);
        }
        return x;
    }

    private static Gamefield withOnes() {
        return with(1, 1, 1, 1, 1, 1, 1, 1);
    }

    private static void holds(String when, Gamefield x, int... numbers) {
        for (int r = 0; r < 8; r++) {
            Checks.due("at(" + r + ") " + when, x.at(r), r < numbers.length ? numbers[r] : 0);
        }
    }

    private static void newObject() {
        Document.says(1, "Creates registers with 0, an empty basket, a board with all coins tails up.");
        Gamefield x = new Gamefield();
        holds("of a new object", x);
        Checks.due("size()", x.size(), 0);
        Checks.due("sweep()", x.sweep(), 0);
        Checks.due("undo()", x.undo(), NONE);
        BigInteger whole = BigInteger.valueOf(17).multiply(BigInteger.valueOf(31).pow(26));
        Checks.due("checksum()", x.checksum(), whole.longValue());
    }

    private static void registers0To7() {
        Document.says("Terms 2", "There are the REGISTERS 0 to 7, each with a number, at first 0.");
        holds("at first", new Gamefield());
        Gamefield x = new Gamefield();
        for (int r = 0; r < 8; r++) {
            Checks.due("set(" + r + ", 200) at first", x.set(r, 200 + r), 0);
        }
        holds("each with its own", x, 200, 201, 202, 203, 204, 205, 206, 207);
    }

    private static void set() {
        Document.says(2, "Sets a register.");
        Document.says(2, "Returns the number that it had.");
        Gamefield x = new Gamefield();
        Checks.due("set(7, 255)", x.set(7, 255), 0);
        Checks.due("set(7, 255) again", x.set(7, 255), 255);
        Checks.due("set(7, 0)", x.set(7, 0), 255);
        Checks.due("set(0, 255)", x.set(0, 255), 0);
        holds("behind set", x, 255);
        Document.says(2, "`register`: a register");
        Document.says(2, "Throws `IndexOutOfBoundsException` if there is no such register");
        for (int r : NO_REGISTERS) {
            Refusals.refusedEverywhere("set(" + r + ", 5)", INDEX, y -> y.set(r, 5));
        }
        Document.says(2, "`number`: 0 to 255");
        Document.says(2, "Throws `IllegalArgumentException` if number is out of range");
        for (int n : new int[] {-1, 256, -256, 511, Integer.MIN_VALUE, Integer.MAX_VALUE}) {
            Refusals.refusedEverywhere("set(0, " + n + ")", ARGUMENT, y -> y.set(0, n));
            Refusals.refusedEverywhere("set(7, " + n + ")", ARGUMENT, y -> y.set(7, n));
        }
    }

    private static void sum() {
        Document.says(3, "Sets a register to the SUM of two.");
        Document.says(3, "Returns its number then.");
        Gamefield x = with(255, 254, 0, 255);
        Checks.due("sum(7, 0, 1)", x.sum(7, 0, 1), 1);
        Checks.due("sum(6, 0, 3) of 255 and 255", x.sum(6, 0, 3), 0);
        Checks.due("sum(5, 2, 4) of 0 and 0", x.sum(5, 2, 4), 0);
        holds("behind sum", x, 255, 254, 0, 255, 0, 0, 0, 1);
        Document.says(3, "`one`: a register, perhaps the same, as in all calls");
        Checks.due("sum(0, 0, 1)", x.sum(0, 0, 1), 1);
        Checks.due("sum(1, 0, 1)", x.sum(1, 0, 1), 255);
        Checks.due("sum(4, 1, 1)", x.sum(4, 1, 1), 0);
        Checks.due("sum(3, 3, 3)", x.sum(3, 3, 3), 0);
        holds("behind sums with the same", x, 1, 255, 0, 0, 0, 0, 0, 1);
        threeRegisters(3, (y, r) -> y.sum(r[0], r[1], r[2]));
    }

    private static void product() {
        Document.says(4, "Sets a register to the PRODUCT of two.");
        Document.says(4, "Returns its number then.");
        Gamefield x = with(255, 1, 0, 255, 16);
        Checks.due("product(7, 0, 3) of 255 and 255", x.product(7, 0, 3), 156);
        Checks.due("product(6, 0, 1) of 255 and 1", x.product(6, 0, 1), 255);
        Checks.due("product(5, 2, 0) of 0 and 255", x.product(5, 2, 0), 0);
        holds("behind product", x, 255, 1, 0, 255, 16, 0, 255, 156);
        Checks.due("product(4, 4, 4) of 16 and 16", x.product(4, 4, 4), 24);
        Checks.due("at(4)", x.at(4), 24);
        threeRegisters(4, (y, r) -> y.product(r[0], r[1], r[2]));
    }

    private static void quotient() {
        Document.says(5, "Sets a register to the quotient of two.");
        Document.says(5, "Returns its number then.");
        Gamefield x = with(255, 1, 0, 156);
        Checks.due("quotient(7, 3, 0) of 156 by 255", x.quotient(7, 3, 0), 255);
        Checks.due("quotient(6, 0, 1) of 255 by 1", x.quotient(6, 0, 1), 255);
        Checks.due("quotient(5, 2, 0) of 0 by 255", x.quotient(5, 2, 0), 0);
        Checks.due("quotient(4, 0, 0) of 255 by 255", x.quotient(4, 0, 0), 1);
        holds("behind quotient", x, 255, 1, 0, 156, 1, 0, 255, 255);
        threeRegisters(5, (y, r) -> y.quotient(r[0], r[1], r[2]));
        Document.says(5, "`other`: a register, by which it is divided");
        Document.says(5, "Throws `ArithmeticException` if the other one has 0");
        refusedWith(new int[] {255, 0, 7}, "quotient(2, 0, 1) of 255 by 0", ARITHMETIC, y -> y.quotient(2, 0, 1));
        refusedWith(new int[] {255, 0, 7}, "quotient(2, 1, 1) of 0 by 0", ARITHMETIC, y -> y.quotient(2, 1, 1));
        refusedWith(new int[] {255, 0, 7}, "quotient(1, 0, 1) to the one with 0", ARITHMETIC, y -> y.quotient(1, 0, 1));
        Checks.due("quotient(2, 0, 1) of 255 by 1", with(255, 1).quotient(2, 0, 1), 255);
    }

    private static void power() {
        Document.says(6, "Sets a register to a power of one.");
        Document.says(6, "Returns its number then: that of one, to the exponent-th.");
        Gamefield x = with(255, 0, 1, 2);
        Checks.due("power(7, 0, 2) of 255", x.power(7, 0, 2), 156);
        Checks.due("power(6, 2, 2147483647) of 1", x.power(6, 2, Integer.MAX_VALUE), 1);
        Checks.due("power(5, 1, 2147483647) of 0", x.power(5, 1, Integer.MAX_VALUE), 0);
        // 3 parts 2147483646, so that 2 to the greatest exponent is 2.
        Checks.due("power(4, 3, 2147483647) of 2", x.power(4, 3, Integer.MAX_VALUE), 2);
        Checks.due("power(4, 3, 2147483646) of 2", x.power(4, 3, Integer.MAX_VALUE - 1), 1);
        holds("behind power", x, 255, 0, 1, 2, 1, 0, 1, 156);
        Document.says(6, "`exponent`: 0 or more");
        Checks.due("power(4, 1, 0) of 0", x.power(4, 1, 0), 1);
        Checks.due("power(4, 0, 0) of 255", x.power(4, 0, 0), 1);
        Checks.due("power(4, 1, 1) of 0", x.power(4, 1, 1), 0);
        Checks.due("power(4, 0, 1) of 255", x.power(4, 0, 1), 255);
        Checks.due("power(4, 0, 254) of 255", x.power(4, 0, 254), inverseOf(255));
        Checks.due("power(4, 0, 255) of 255", x.power(4, 0, 255), 1);
        Checks.due("power(4, 0, 256) of 255", x.power(4, 0, 256), 255);
        powersGoRound();
        Document.says(6, "Throws `IllegalArgumentException` if exponent is below 0");
        for (int n : new int[] {-1, -2, -255, Integer.MIN_VALUE}) {
            Refusals.refusedEverywhere("power(0, 7, " + n + ")", ARGUMENT, y -> y.power(0, 7, n));
            refusedWith(new int[] {1}, "power(1, 0, " + n + ") of 1", ARGUMENT, y -> y.power(1, 0, n));
        }
        twoRegisters(6, (y, r) -> y.power(r[0], r[1], 2));
    }

    /** To the 255th each number but 0 is 1, so that its powers come again; those of 0 do not. */
    private static void powersGoRound() {
        for (int exponent : new int[] {1, 2, 3, 254, 255, 256, 510, 2147483520, 2147483646, 2147483647}) {
            Checks.due("0 to the " + exponent, with(0).power(1, 0, exponent), 0);
            for (int a : new int[] {1, 2, 3, 15, 16, 128, 255}) {
                int want = 1;
                for (int i = 0; i < exponent % 255; i++) {
                    want = Model.productTold(want, a);
                }
                Checks.due(a + " to the " + exponent, with(a).power(1, 0, exponent), want);
            }
        }
    }

    private static int inverseOf(int a) {
        int b = 1;
        while (Model.productTold(a, b) != 1) {
            b++;
        }
        return b;
    }

    private static void root() {
        Document.says(7, "Sets a register to the ROOT of one.");
        Document.says(7, "Returns its number then.");
        Gamefield x = with(156, 0, 1);
        Checks.due("root(7, 0) of 156", x.root(7, 0), 255);
        Checks.due("root(6, 1) of 0", x.root(6, 1), 0);
        Checks.due("root(5, 2) of 1", x.root(5, 2), 1);
        holds("behind root", x, 156, 0, 1, 0, 0, 1, 0, 255);
        Checks.due("root(0, 0) of 156", x.root(0, 0), 255);
        Checks.due("at(0)", x.at(0), 255);
        twoRegisters(7, (y, r) -> y.root(r[0], r[1]));
    }

    private static void solve() {
        Document.says(8, "Sets a register to a number x, the SUM of whose square and itself is the number of one.");
        Document.says(8, "Returns its number then.");
        Document.says(8, "`isGreater`: whether the greater one of those x is taken, otherwise the lesser one");
        Gamefield x = with(0, 1, 127, 128);
        Checks.due("solve(7, 0, false) of 0", x.solve(7, 0, false), 0);
        Checks.due("solve(7, 0, true) of 0", x.solve(7, 0, true), 1);
        Checks.due("solve(6, 1, false) of 1", x.solve(6, 1, false), 2);
        Checks.due("solve(5, 1, true) of 1", x.solve(5, 1, true), 3);
        holds("behind solve", x, 0, 1, 127, 128, 0, 3, 2, 1);
        int lesser = x.solve(4, 2, false);
        Checks.due("square and itself, of what solves 127", Model.productTold(lesser, lesser) ^ lesser, 127);
        Checks.due("solve(2, 2, true) of 127", x.solve(2, 2, true), lesser + 1);
        Checks.due("at(2)", x.at(2), lesser + 1);
        Document.says(8, "Throws `NoSuchElementException` if there is no such x");
        for (int n = 0; n < 256; n++) {
            Object unsolved = "java.util.NoSuchElementException";
            int a = n;
            Object answer = Checks.outcome(() -> with(a).solve(1, 0, false));
            Checks.due("whether there is no x for " + n, answer.equals(unsolved), n >= 128);
        }
        for (int n : new int[] {128, 255}) {
            for (boolean isGreater : new boolean[] {false, true}) {
                String call = "solve(1, 0, " + isGreater + ") of " + n;
                int[] numbers = {n, 9};
                refusedWith(numbers, call, NoSuchElementException.class, y -> y.solve(1, 0, isGreater));
                refusedWith(numbers, call + " to itself", NoSuchElementException.class, y -> y.solve(0, 0, isGreater));
            }
        }
        twoRegisters(8, (y, r) -> y.solve(r[0], r[1], true));
    }

    private static void refusedWith(int[] numbers, String call, Class<?> want, Function<Gamefield, Object> run) {
        Refusals.refused(call, want, () -> with(numbers), run);
        Refusals.refused(call + " behind eight changes", want, () -> behindMore(with(numbers)), run);
    }

    /** With the register 7 changed until all eight changes that are kept are its own. */
    private static Gamefield behindMore(Gamefield x) {
        for (int n = 30; n < 38; n++) {
            x.set(7, n);
        }
        return x;
    }

    interface WithRegisters {
        Object on(Gamefield x, int[] registers);
    }

    private static void threeRegisters(int promise, WithRegisters call) {
        Document.says(promise, "`to`: a register");
        Document.says(promise, "`one`: a register");
        Document.says(promise, "`other`: a register");
        registers(promise, 3, call);
    }

    private static void twoRegisters(int promise, WithRegisters call) {
        Document.says(promise, "`to`: a register");
        Document.says(promise, "`one`: a register");
        registers(promise, 2, call);
    }

    private static void oneRegister(int promise, WithRegisters call) {
        Document.says(promise, "`register`: a register");
        registers(promise, 1, call);
    }

    /** The first and the last register may stand in each place, and what is no register in none. */
    static void registers(int promise, int places, WithRegisters call) {
        Document.says(promise, "Throws `IndexOutOfBoundsException` if there is no such register");
        for (int place = 0; place < places; place++) {
            for (int r : new int[] {0, 7}) {
                int[] registers = new int[places];
                Arrays.fill(registers, 3);
                registers[place] = r;
                Object answer = Checks.outcome(() -> call.on(withOnes(), registers));
                Checks.due("answers with register " + r + " in place " + place, answer instanceof String, false);
            }
            for (int r : NO_REGISTERS) {
                int[] registers = new int[places];
                registers[place] = r;
                Refusals.refusedEverywhere("the call with register " + r + " in place " + place, INDEX,
                        x -> call.on(x, registers));
                Refusals.refused("the call with register " + r + " in place " + place + ", else ones", INDEX,
                        RegisterEdges::withOnes, x -> call.on(x, registers));
            }
        }
    }

    private static void changesAreKept() {
        Document.says("Terms 2", "CHANGES are the calls from set() to solve() that throw nothing");
        Gamefield x = new Gamefield();
        x.set(0, 3);
        x.sum(1, 0, 7);
        x.product(2, 0, 0);
        x.quotient(3, 0, 0);
        x.power(4, 0, 2);
        x.root(5, 0);
        x.solve(6, 0, true);
        holds("behind one change of each kind", x, 3, 3, 2, 1, 2, 2, 7);
        for (int r = 6; r >= 0; r--) {
            Checks.due("undo() of the change of " + r, x.undo(), r);
            Checks.due("at(" + r + ")", x.at(r), 0);
        }
        Checks.due("undo() behind them", x.undo(), NONE);
    }

    private static void unchangedRegisterIsKept() {
        Document.says("Terms 2", "also those by which the register stays as it was");
        Gamefield x = new Gamefield();
        x.set(1, 0);
        x.sum(2, 0, 0);
        x.product(3, 0, 0);
        x.power(4, 0, 1);
        x.root(5, 0);
        x.solve(6, 0, false);
        for (int r = 6; r > 0; r--) {
            Checks.due("undo() of a change by which " + r + " stayed", x.undo(), r);
        }
        Checks.due("undo() behind them", x.undo(), NONE);
        Gamefield y = with(1);
        y.quotient(0, 0, 0);
        Checks.due("undo() of 1 by 1", y.undo(), 0);
        Checks.due("at(0)", y.at(0), 1);
        Checks.due("undo() of set(0, 1)", y.undo(), 0);
        Checks.due("at(0)", y.at(0), 0);
        Gamefield z = with(9, 9);
        behindMore(z);
        for (int i = 0; i < 8; i++) {
            z.set(0, 9);
        }
        Checks.due("at(7) behind eight changes by which all stayed", z.at(7), 37);
        for (int i = 0; i < 8; i++) {
            Checks.due("undo() of one of them", z.undo(), 0);
        }
        Checks.due("undo(): those before are not kept", z.undo(), NONE);
        Checks.due("at(7)", z.at(7), 37);
    }

    private static void othersAreNoChanges() {
        Document.says("Terms 2", "CHANGES are the calls from set() to solve()");
        Gamefield x = with(5);
        x.put(1);
        x.shift(2);
        x.scale(3);
        x.close();
        x.take(0);
        x.turn(1, 1);
        x.play(1, 1, 0, 0);
        x.answer();
        x.sweep();
        x.clear();
        x.put(4);
        x.turn(2, 3);
        x.squarings(0);
        Checks.due("undo() behind calls that change no register", x.undo(), 0);
        holds("behind undo", x);
        Checks.due("undo() again", x.undo(), NONE);
        Checks.due("has(4)", x.has(4), true);
        Checks.due("size()", x.size(), 1);
        Checks.due("isUp(2, 3)", x.isUp(2, 3), true);
    }

    private static void refusedCallsAreNoChanges() {
        Document.says("Terms 2", "that throw nothing");
        Gamefield x = with(128, 7);
        refuseEachChange(x);
        Checks.due("undo() behind calls that throw", x.undo(), 1);
        refuseEachChange(x);
        Checks.due("undo() behind calls that throw", x.undo(), 0);
        refuseEachChange(x);
        Checks.due("undo() behind calls that throw", x.undo(), NONE);
        holds("behind all that", x);
    }

    private static void refuseEachChange(Gamefield x) {
        x.set(6, 128);
        Object[] outcomes = {
            Checks.outcome(() -> x.set(0, 256)), Checks.outcome(() -> x.sum(8, 0, 0)),
            Checks.outcome(() -> x.product(0, 8, 0)), Checks.outcome(() -> x.quotient(0, 0, 5)),
            Checks.outcome(() -> x.power(0, 0, -1)), Checks.outcome(() -> x.root(0, -1)),
            Checks.outcome(() -> x.solve(0, 6, false))
        };
        for (Object outcome : outcomes) {
            Checks.due("that " + outcome + " was thrown", outcome instanceof String, true);
        }
        Checks.due("undo() of set(6, 128) behind calls that throw", x.undo(), 6);
    }

    private static void noneIsKept() {
        Document.says(9, "Takes back the latest change that is kept.");
        Gamefield changed = with(5);
        Checks.due("undo() of set(0, 5)", changed.undo(), 0);
        Checks.due("at(0)", changed.at(0), 0);
        Document.says(9, "Returns the register that was changed; NONE, and nothing is other, if none is kept.");
        nothingIsOtherByUndo("a new object", Gamefield::new);
        nothingIsOtherByUndo("a full object with its changes taken back", () -> {
            Gamefield x = Refusals.full();
            for (int i = 0; i < 8; i++) {
                x.undo();
            }
            return x;
        });
        nothingIsOtherByUndo("registers whose first changes are not kept", () -> {
            Gamefield x = behindMore(with(1, 2, 3));
            for (int i = 0; i < 8; i++) {
                x.undo();
            }
            return x;
        });
    }

    private static void nothingIsOtherByUndo(String when, Supplier<Gamefield> led) {
        Gamefield asked = led.get();
        Checks.due("undo() of " + when, asked.undo(), NONE);
        Checks.due("undo() again of " + when, asked.undo(), NONE);
        Checks.due("later calls of " + when, Refusals.laterAnswers(asked), Refusals.laterAnswers(led.get()));
    }

    private static void eightAreKept() {
        Document.says("Terms 2", "The latest 8 of them are kept");
        Gamefield x = with(10, 11, 12, 13, 14, 15, 16, 17);
        for (int r = 7; r >= 0; r--) {
            Checks.due("undo() of the change of " + r, x.undo(), r);
            Checks.due("at(" + r + ")", x.at(r), 0);
        }
        Checks.due("undo() of a ninth one", x.undo(), NONE);
        // All of one register: each undo() brings the number back that it had before.
        Gamefield y = new Gamefield();
        for (int n = 1; n <= 8; n++) {
            y.set(4, 10 * n);
        }
        for (int n = 7; n >= 0; n--) {
            Checks.due("undo()", y.undo(), 4);
            Checks.due("at(4)", y.at(4), 10 * n);
        }
        Checks.due("undo()", y.undo(), NONE);
    }

    private static void theNinthIsNot() {
        Document.says("Terms 2", "The latest 8 of them are kept");
        for (int changes = 9; changes <= 40; changes++) {
            Gamefield x = new Gamefield();
            for (int n = 1; n <= changes; n++) {
                x.set(4, n);
            }
            for (int n = changes - 1; n >= changes - 8; n--) {
                Checks.due("undo() of one of " + changes, x.undo(), 4);
                Checks.due("at(4)", x.at(4), n);
            }
            Checks.due("undo() of the ninth one of " + changes, x.undo(), NONE);
            Checks.due("at(4)", x.at(4), changes - 8);
        }
    }

    private static void undoneIsNotKept() {
        Document.says("Terms 2", "undo() takes back the latest one that is kept, which is not kept any more then.");
        Gamefield x = with(1, 2, 3, 4, 5, 6, 7, 8);
        x.set(0, 100);
        Checks.due("undo() of the ninth change", x.undo(), 0);
        Checks.due("at(0)", x.at(0), 1);
        Checks.due("undo() of the eighth change", x.undo(), 7);
        x.set(6, 200);
        x.set(5, 201);
        for (int r : new int[] {5, 6, 6, 5, 4, 3, 2, 1}) {
            Checks.due("undo()", x.undo(), r);
        }
        Checks.due("undo(): the first change is not kept", x.undo(), NONE);
        holds("behind all that is kept", x, 1);
        // Taken back it is not kept, so that undo() is not taken back itself.
        Gamefield y = with(9);
        Checks.due("undo()", y.undo(), 0);
        Checks.due("undo() again", y.undo(), NONE);
        Checks.due("at(0)", y.at(0), 0);
        y.set(3, 4);
        Checks.due("undo() of a change behind undo()", y.undo(), 3);
        Checks.due("undo()", y.undo(), NONE);
        holds("behind undo", y);
    }

    private static void asked() {
        Document.says(10, "Returns the number of a register.");
        Document.says(10, "Returns the number.");
        holds("of first and last", with(255, 0, 0, 0, 0, 0, 0, 128), 255, 0, 0, 0, 0, 0, 0, 128);
        oneRegister(10, (x, r) -> x.at(r[0]));
        Document.says(11, "Returns the TRACE of the number of a register.");
        Document.says(11, "Returns the TRACE.");
        Gamefield x = with(0, 1, 127, 128, 0, 0, 0, 255);
        int[] traces = {0, 0, 0, 1, 0, 0, 0, 1};
        for (int r = 0; r < 8; r++) {
            Checks.due("trace(" + r + ")", x.trace(r), traces[r]);
        }
        oneRegister(11, (y, r) -> y.trace(r[0]));
        Document.says(13, "Tells the least one of the FIELDS that the number of a register is in.");
        Document.says(13, "Returns how many numbers this has.");
        Gamefield y = with(0, 1, 2, 3, 4, 15, 16, 255);
        int[] fields = {2, 2, 4, 4, 16, 16, 256, 256};
        for (int r = 0; r < 8; r++) {
            Checks.due("field(" + r + ")", y.field(r), fields[r]);
        }
        oneRegister(13, (z, r) -> z.field(r[0]));
    }

    private static void order() {
        Document.says(12, "Returns the ORDER of the number of a register.");
        Document.says(12, "Returns the ORDER.");
        Gamefield x = with(1, 2, 3, 4, 15, 16, 128, 255);
        int[] orders = {1, 3, 3, 15, 15, 85, 85, 255};
        for (int r = 0; r < 8; r++) {
            Checks.due("order(" + r + ")", x.order(r), orders[r]);
        }
        Document.says(12, "Throws `ArithmeticException` if the number is 0");
        Refusals.refused("order(0) of a new object", ARITHMETIC, Gamefield::new, y -> y.order(0));
        refusedWith(new int[] {255, 0, 7}, "order(1) of 0", ARITHMETIC, y -> y.order(1));
        Document.says(12, "`register`: a register");
        registers(12, 1, (y, r) -> y.order(r[0]));
    }

    private static void squarings() {
        Document.says(14, "Squares the number of a register time and again (the register stays).");
        Document.says(14, "Returns behind how many squarings, one at least, it comes back to what it was.");
        Gamefield x = with(0, 1, 2, 3, 4, 15, 16, 255);
        int[] squarings = {1, 1, 2, 2, 4, 4, 8, 8};
        for (int r = 0; r < 8; r++) {
            Checks.due("squarings(" + r + ")", x.squarings(r), squarings[r]);
        }
        holds("behind squarings", x, 0, 1, 2, 3, 4, 15, 16, 255);
        Checks.due("undo(): squarings is no change", x.undo(), 7);
        oneRegister(14, (y, r) -> y.squarings(r[0]));
    }
}
