import java.math.BigInteger;
import java.util.Arrays;
import java.util.NoSuchElementException;

/** The edges of section 4 of the Terms, of promises 39 to 42, and of the 512 calls of an object. */
final class WholeEdges {
    private static final Class<IndexOutOfBoundsException> INDEX = IndexOutOfBoundsException.class;
    private static final Class<IllegalArgumentException> ARGUMENT = IllegalArgumentException.class;

    private WholeEdges() {
    }

    static void all() {
        whichException();
        theOneListedFirst();
        none();
        share();
        mean();
        isSound();
        checksum();
        longsGoRound();
        the512thCall();
    }

    private static void whichException() {
        Document.says("Terms 4",
                "An IndexOutOfBoundsException is thrown for a register, a place of the basket or a place of the "
                + "board that there is not");
        Refusals.refusedEverywhere("at(8)", INDEX, x -> x.at(8));
        Refusals.refusedEverywhere("numberAt(256)", INDEX, x -> x.numberAt(256));
        Refusals.refusedEverywhere("isUp(4, 0)", INDEX, x -> x.isUp(4, 0));
        Document.says("Terms 4", "an IllegalArgumentException for another number that is out of its range");
        Refusals.refusedEverywhere("put(256)", ARGUMENT, x -> x.put(256));
        Refusals.refusedEverywhere("isField(17)", ARGUMENT, x -> x.isField(17));
        Document.says("Terms 4", "others as they are told");
        Refusals.refused("order(0) of 0", ArithmeticException.class, Gamefield::new, x -> x.order(0));
        Refusals.refused("play(1, 1, 0, 0)", IllegalStateException.class, Gamefield::new, x -> x.play(1, 1, 0, 0));
        Refusals.refused("solve(0, 0, true) of 255", NoSuchElementException.class, Refusals::full,
                x -> x.solve(0, 0, true));
    }

    /** Two wrongs in one call, and behind it what the later one alone brings, so that it is known to be wrong. */
    private static void theOneListedFirst() {
        Document.says("Terms 4",
                "If several exceptions apply to a call, the one that is listed first is thrown; a call that "
                + "throws an exception changes nothing.");
        for (int r : RegisterEdges.NO_REGISTERS) {
            for (int n : new int[] {-1, 256, Integer.MIN_VALUE, Integer.MAX_VALUE}) {
                Refusals.refusedEverywhere("set(" + r + ", " + n + ")", INDEX, x -> x.set(r, n));
                Refusals.refusedEverywhere("set(0, " + n + ")", ARGUMENT, x -> x.set(0, n));
            }
            for (int n : new int[] {-1, Integer.MIN_VALUE}) {
                Refusals.refusedEverywhere("power(" + r + ", 0, " + n + ")", INDEX, x -> x.power(r, 0, n));
                Refusals.refusedEverywhere("power(0, " + r + ", " + n + ")", INDEX, x -> x.power(0, r, n));
                Refusals.refusedEverywhere("power(0, 0, " + n + ")", ARGUMENT, x -> x.power(0, 0, n));
            }
            listedFirst("quotient(" + r + ", 0, 1) by 0", r, 0, 1);
            listedFirst("quotient(0, " + r + ", 1) by 0", 0, r, 1);
            listedFirst("quotient(0, 1, " + r + ")", 0, 1, r);
            Refusals.refused("solve(" + r + ", 0, true) of 255", INDEX, Refusals::full, x -> x.solve(r, 0, true));
            Refusals.refused("solve(" + r + ", 0, false) of 255", INDEX, Refusals::full, x -> x.solve(r, 0, false));
            Refusals.refused("solve(0, " + r + ", true)", INDEX, Refusals::full, x -> x.solve(0, r, true));
        }
        Refusals.refused("quotient(0, 0, 1) by 0", ArithmeticException.class, Gamefield::new, x -> x.quotient(0, 0, 1));
        for (int n : new int[] {-1, 4}) {
            Refusals.refusedEverywhere("play(0, 0, 0, " + n + ")", INDEX, x -> x.play(0, 0, 0, n));
            Refusals.refusedEverywhere("play(0, 0, " + n + ", 0)", INDEX, x -> x.play(0, 0, n, 0));
            Refusals.refusedEverywhere("play(1, 1, 1, " + n + ")", INDEX, x -> x.play(1, 1, 1, n));
            Refusals.refusedEverywhere("play(" + n + ", 0, 3, 3)", INDEX, x -> x.play(n, 0, 3, 3));
        }
        Refusals.refusedEverywhere("play(0, 0, 0, 0)", IllegalStateException.class, x -> x.play(0, 0, 0, 0));
    }

    private static void listedFirst(String call, int to, int one, int other) {
        Refusals.refused(call, INDEX, Gamefield::new, x -> x.quotient(to, one, other));
        Refusals.refused(call + " of a full object", INDEX, Refusals::full, x -> x.quotient(to, one, other));
    }

    private static void none() {
        Document.says("Terms 4", "The constants: `NONE = -1`: There is none.");
        Checks.due("NONE", Gamefield.NONE, -1);
        Checks.due("undo() of none", new Gamefield().undo(), -1);
        Checks.due("best() of none", new Gamefield().best(), -1);
        Checks.due("answer() of none", new Gamefield().answer(), -1);
    }

    private static void share() {
        Document.says(39, "Returns the share of all numbers that is in the basket.");
        Document.says(39, "Returns how many it has, converted to float, divided by 256.0f.");
        Gamefield x = new Gamefield();
        Checks.due("share() of the empty basket", x.share(), 0.0f);
        for (int number = 0; number < 256; number++) {
            x.put(255 - number);
            if (number % 3 == 0) {
                Checks.due("share() of " + (number + 1), x.share(), (float) (number + 1) / 256.0f);
            }
        }
        Checks.due("share() of the full basket", x.share(), 1.0f);
        x.take(128);
        Checks.due("share() of all but one", x.share(), 0.99609375f);
        Gamefield y = new Gamefield();
        y.put(0);
        Checks.due("share() of 0", y.share(), 0.00390625f);
    }

    private static void mean() {
        Document.says(40, "Returns the mean of the registers.");
        Document.says(40, "Returns the sum of arithmetic of their numbers, converted to double, divided by 8.0.");
        Checks.due("mean() of a new object", new Gamefield().mean(), 0.0);
        Gamefield x = new Gamefield();
        x.set(7, 1);
        Checks.due("mean() of 1", x.mean(), 0.125);
        x.set(0, 255);
        Checks.due("mean() of 1 and 255", x.mean(), 32.0);
        x.set(3, 255);
        Checks.due("mean() of 1 and 255 and 255: the SUM is not meant", x.mean(), 63.875);
        Checks.due("mean() of a full object", Refusals.full().mean(), 255.0);
    }

    private static void isSound() {
        Document.says(41, "Looks whether the THEOREM holds of two numbers, a of one register and b of another one.");
        Document.says(41, "always true");
        for (int a = 0; a < 256; a++) {
            for (int begin = 0; begin < 256; begin += 128) {
                Gamefield x = new Gamefield();
                x.set(0, a);
                for (int b = begin; b < begin + 128; b++) {
                    x.set(7, b);
                    Checks.due("isSound(0, 7) of " + a + " and " + b, Checks.outcome(() -> x.isSound(0, 7)), true);
                }
            }
        }
        Document.says(41, "the quotient of a by b, if b is not 0, times b is a");
        Checks.due("isSound(0, 1) of 0 and 0", new Gamefield().isSound(0, 1), true);
        Document.says(41, "`other`: a register, perhaps the same");
        Gamefield full = Refusals.full();
        long before = full.checksum();
        Checks.due("isSound(7, 7) of 255", full.isSound(7, 7), true);
        Checks.due("checksum() behind isSound", full.checksum(), before);
        Document.says(41, "`one`: a register");
        RegisterEdges.registers(41, 2, (x, r) -> x.isSound(r[0], r[1]));
    }

    /** c, 17 at first, becomes 31 c + n for each n, in whole numbers that do not go round. */
    private static BigInteger whole(int... numbers) {
        BigInteger c = BigInteger.valueOf(17);
        for (int n : numbers) {
            c = c.multiply(BigInteger.valueOf(31)).add(BigInteger.valueOf(n));
        }
        return c;
    }

    private static void checksum() {
        Document.says(42, "Returns a checksum.");
        Document.says(42,
                "the numbers of the registers; how many the basket has, and its numbers, the least one first; "
                + "for each place of the board, by x, those of one x by y, 1 if its coin is heads up, otherwise "
                + "0; how many changes are kept.");
        Gamefield x = new Gamefield();
        int[] numbers = new int[26];
        Checks.due("checksum() of a new object", x.checksum(), whole(numbers).longValue());
        for (int r = 0; r < 8; r++) {
            x.set(r, 255 - r);
            numbers[r] = 255 - r;
            numbers[25] = r + 1;
            Checks.due("checksum() with " + r + " set", x.checksum(), whole(numbers).longValue());
        }
        x.set(0, 255);
        Checks.due("checksum() with a ninth change", x.checksum(), whole(numbers).longValue());
        for (int p = 0; p < 16; p++) {
            x.turn(p / 4, p % 4);
            numbers[9 + p] = 1;
            Checks.due("checksum() with place " + p + " turned", x.checksum(), whole(numbers).longValue());
        }
        for (int kept = 7; kept >= 0; kept--) {
            x.undo();
            // By the ninth change register 0 stayed; those before it brought each of 7 to 1 from 0.
            numbers[kept + 1] = kept == 7 ? numbers[8] : 0;
            numbers[25] = kept;
            Checks.due("checksum() with " + kept + " changes kept", x.checksum(), whole(numbers).longValue());
        }
        x.undo();
        Checks.due("checksum() behind undo() of none", x.checksum(), whole(numbers).longValue());
        x.put(255);
        x.put(0);
        x.put(128);
        int[] basket = {3, 0, 128, 255};
        int[] more = Arrays.copyOf(numbers, 29);
        System.arraycopy(basket, 0, more, 8, 4);
        System.arraycopy(numbers, 9, more, 12, 17);
        Checks.due("checksum() with 0, 128, 255 in the basket", x.checksum(), whole(more).longValue());
    }

    private static void longsGoRound() {
        Document.says(42, "which is 17 at first and becomes 31 * c + n (as longs that go round)");
        int[] numbers = new int[8 + 1 + 256 + 16 + 1];
        Arrays.fill(numbers, 1);
        Arrays.fill(numbers, 0, 8, 255);
        numbers[8] = 256;
        for (int number = 0; number < 256; number++) {
            numbers[9 + number] = number;
        }
        numbers[numbers.length - 1] = 8;
        BigInteger whole = whole(numbers);
        Checks.due("whether this is far above all longs", whole.bitLength() > 1000, true);
        Checks.due("checksum() of a full object", Refusals.full().checksum(), whole.longValue());
        // Both signs come, so that neither a remainder nor an end at the greatest long is meant.
        boolean hasAbove = false;
        boolean hasBelow = false;
        Gamefield x = new Gamefield();
        for (int n = 0; n < 40; n++) {
            x.set(0, n);
            int[] few = new int[26];
            few[0] = n;
            few[25] = Math.min(n + 1, 8);
            long c = x.checksum();
            Checks.due("checksum() with " + n + " in register 0", c, whole(few).longValue());
            hasAbove |= c > 0;
            hasBelow |= c < 0;
        }
        Checks.due("whether one was above 0", hasAbove, true);
        Checks.due("whether one was below 0", hasBelow, true);
    }

    private static void the512thCall() {
        Document.says("What it is", "An object is used for at most 512 calls after it has been made");
        Gamefield x = new Gamefield();
        for (int i = 0; i < 503; i++) {
            Checks.due("call " + (i + 1) + ", set", x.set(i % 8, i % 256), i < 8 ? 0 : (i - 8) % 256);
        }
        for (int i = 502; i > 494; i--) {
            Checks.due("call " + (1006 - i) + ", undo()", x.undo(), i % 8);
        }
        Checks.due("call 512, undo()", x.undo(), -1);
        Gamefield y = Refusals.full();
        for (int i = 33; i < 511; i++) {
            y.isSound(i % 8, 0);
        }
        Checks.due("call 512, worth()", y.worth(), Model.worthTold(65535));
        Gamefield z = new Gamefield();
        for (int i = 0; i < 511; i++) {
            Checks.outcome(() -> z.set(8, 8));
        }
        Checks.due("call 512, undo() behind calls that throw", z.undo(), -1);
    }
}
