/** Promises 39 to 42: the whole. */
public final class WholeTest {
    private WholeTest() {
    }

    private static void share() {
        Checks.promise(39);
        Gamefield x = new Gamefield();
        Checks.due("share() of none", x.share(), 0.0f);
        x.put(255);
        Checks.due("share() of one", x.share(), 0.00390625f);
        x.put(0);
        x.put(7);
        Checks.due("share() of three", x.share(), 0.01171875f);
        for (int n = 0; n < 256; n++) {
            x.put(n);
        }
        Checks.due("share() of all", x.share(), 1.0f);
    }

    private static void mean() {
        Checks.promise(40);
        Gamefield x = new Gamefield();
        Checks.due("mean() of none", x.mean(), 0.0);
        x.set(0, 1);
        Checks.due("mean() of 1", x.mean(), 0.125);
        x.set(7, 254);
        Checks.due("mean() of 1 and 254", x.mean(), 31.875);
        for (int r = 0; r < 8; r++) {
            x.set(r, 255);
        }
        Checks.due("mean() of eight times 255", x.mean(), 255.0);
    }

    private static void isSound() {
        Checks.promise(41);
        Gamefield x = new Gamefield();
        int a = 0;
        int b = 0;
        for (int i = 0; i < 110; i++) {
            x.set(3, a);
            x.set(4, b);
            long before = x.checksum();
            Checks.due("isSound(3, 4) of " + a + " and " + b, x.isSound(3, 4), true);
            Checks.due("checksum()", x.checksum(), before);
            a = (a + 91) % 256;
            b = (b + 53) % 256;
        }
        Checks.due("isSound(3, 3)", x.isSound(3, 3), true);
        Checks.due("isSound(0, 7) of 0 and 0", x.isSound(0, 7), true);
        for (int r : new int[] {-1, 8, 9, Integer.MIN_VALUE, Integer.MAX_VALUE}) {
            Checks.dueThrow(x, "isSound(" + r + ", 0)", IndexOutOfBoundsException.class, () -> x.isSound(r, 0));
            Checks.dueThrow(x, "isSound(0, " + r + ")", IndexOutOfBoundsException.class, () -> x.isSound(0, r));
        }
    }

    private static long summed(int... numbers) {
        long c = 17;
        for (int n : numbers) {
            c = 31 * c + n;
        }
        return c;
    }

    private static void checksum() {
        Checks.promise(42);
        Gamefield x = new Gamefield();
        Checks.due("checksum() of a new object", x.checksum(),
                summed(0, 0, 0, 0, 0, 0, 0, 0, 0, 0, 0, 0, 0, 0, 0, 0, 0, 0, 0, 0, 0, 0, 0, 0, 0, 0));
        x.set(0, 255);
        x.set(7, 9);
        x.put(200);
        x.put(0);
        x.put(3);
        x.turn(0, 1);
        x.turn(3, 2);
        Checks.due("checksum()", x.checksum(),
                summed(255, 0, 0, 0, 0, 0, 0, 9, 3, 0, 3, 200, 0, 1, 0, 0, 0, 0, 0, 0, 0, 0, 0, 0, 0, 0, 1, 0, 2));
        for (int i = 0; i < 9; i++) {
            x.set(1, 0);
        }
        Checks.due("checksum() behind more changes than are kept", x.checksum(),
                summed(255, 0, 0, 0, 0, 0, 0, 9, 3, 0, 3, 200, 0, 1, 0, 0, 0, 0, 0, 0, 0, 0, 0, 0, 0, 0, 1, 0, 8));
        x.undo();
        Checks.due("checksum() behind undo()", x.checksum(),
                summed(255, 0, 0, 0, 0, 0, 0, 9, 3, 0, 3, 200, 0, 1, 0, 0, 0, 0, 0, 0, 0, 0, 0, 0, 0, 0, 1, 0, 7));
    }

    public static void main(String[] args) {
        share();
        mean();
        isSound();
        checksum();
        Checks.finish("WholeTest");
    }
}
