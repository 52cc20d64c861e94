import java.util.NoSuchElementException;

/**
 * A field made of games: numbers 0 to 255 in registers, a basket of numbers, a board on which
 * corners are turned. What each call promises stands in ../shared/DOC.md.
 *
 * <p>All rows are made with the object and used again, so that no call takes new room.
 */
public final class Gamefield {
    public static final int NONE = -1;

    private static final int NUMBERS = 256;
    private static final int PRODUCTS_TRIED = 16;

    private final Numbers numbers;
    private final Registers registers;
    private final Basket basket;
    private final Board board;

    public Gamefield() {
        numbers = new Numbers();
        registers = new Registers();
        basket = new Basket();
        board = new Board();
    }

    // ---- registers: changes

    public int set(int register, int number) throws IndexOutOfBoundsException, IllegalArgumentException {
        int before = registers.numberOf(register);
        requireBetween(0, number, NUMBERS - 1);
        registers.change(register, number);
        return before;
    }

    public int sum(int to, int one, int other) throws IndexOutOfBoundsException {
        return registers.change(to, registers.numberOf(one) ^ registers.numberOf(other));
    }

    public int product(int to, int one, int other) throws IndexOutOfBoundsException {
        return registers.change(to, numbers.productOf(registers.numberOf(one), registers.numberOf(other)));
    }

    public int quotient(int to, int one, int other) throws IndexOutOfBoundsException, ArithmeticException {
        registers.requireRegister(to);
        int a = registers.numberOf(one);
        int b = registers.numberOf(other);
        if (b == 0) {
            throw new ArithmeticException("0 divides nothing");
        }
        return registers.change(to, numbers.quotientOf(a, b));
    }

    public int power(int to, int one, int exponent) throws IndexOutOfBoundsException, IllegalArgumentException {
        registers.requireRegister(to);
        int a = registers.numberOf(one);
        if (exponent < 0) {
            throw new IllegalArgumentException("an exponent below 0");
        }
        return registers.change(to, numbers.powerOf(a, exponent));
    }

    public int root(int to, int one) throws IndexOutOfBoundsException {
        return registers.change(to, numbers.rootOf(registers.numberOf(one)));
    }

    public int solve(int to, int one, boolean isGreater) throws IndexOutOfBoundsException, NoSuchElementException {
        registers.requireRegister(to);
        int x = numbers.solutionOf(registers.numberOf(one), isGreater);
        if (x == NONE) {
            throw new NoSuchElementException("no x, the sum of whose square and itself is this number");
        }
        return registers.change(to, x);
    }

    public int undo() {
        return registers.takeBack();
    }

    // ---- registers: what is asked

    public int at(int register) throws IndexOutOfBoundsException {
        return registers.numberOf(register);
    }

    public int trace(int register) throws IndexOutOfBoundsException {
        return numbers.traceOf(registers.numberOf(register));
    }

    public int order(int register) throws IndexOutOfBoundsException, ArithmeticException {
        int a = registers.numberOf(register);
        if (a == 0) {
            throw new ArithmeticException("0 has no order");
        }
        return numbers.orderOf(a);
    }

    public int field(int register) throws IndexOutOfBoundsException {
        return numbers.fieldOf(registers.numberOf(register));
    }

    public int squarings(int register) throws IndexOutOfBoundsException {
        return numbers.squaringsOf(registers.numberOf(register));
    }

    // ---- numbers told

    public int triedSum(int a, int b) throws IllegalArgumentException {
        requireBetween(0, a, NUMBERS - 1);
        requireBetween(0, b, NUMBERS - 1);
        return numbers.sumByTrying(a, b);
    }

    public int triedProduct(int a, int b) throws IllegalArgumentException {
        requireBetween(0, a, PRODUCTS_TRIED - 1);
        requireBetween(0, b, PRODUCTS_TRIED - 1);
        return numbers.productByTrying(a, b);
    }

    public int times(int a, int b) throws IllegalArgumentException {
        requireBetween(0, a, NUMBERS - 1);
        requireBetween(0, b, NUMBERS - 1);
        return numbers.productOf(a, b);
    }

    public boolean isField(int n) throws IllegalArgumentException {
        requireBetween(1, n, 16);
        return 1 < n && numbers.areClosedBelow(n) && numbers.haveInversesBelow(n);
    }

    // ---- the basket

    public boolean put(int number) throws IllegalArgumentException {
        requireBetween(0, number, NUMBERS - 1);
        return basket.now.add(number);
    }

    public boolean take(int number) {
        return basket.now.remove(number);
    }

    public boolean has(int number) {
        return basket.now.contains(number);
    }

    public int size() {
        return basket.now.count();
    }

    public int numberAt(int place) throws IndexOutOfBoundsException {
        int number = basket.now.numberBehind(place);
        if (number == NONE) {
            throw new IndexOutOfBoundsException("no such place of the basket");
        }
        return number;
    }

    public int leastOut() {
        return basket.now.leastAbsent();
    }

    public int shift(int number) throws IllegalArgumentException {
        requireBetween(0, number, NUMBERS - 1);
        return basket.shiftBy(number);
    }

    public int scale(int number) throws IllegalArgumentException {
        requireBetween(0, number, NUMBERS - 1);
        return basket.scaleBy(number, numbers);
    }

    public int rank() {
        return basket.spread();
    }

    public boolean isSpanned(int number) throws IllegalArgumentException {
        requireBetween(0, number, NUMBERS - 1);
        return basket.spans(number);
    }

    public int close() {
        return basket.becomeSpan();
    }

    public int clear() {
        int had = basket.now.count();
        basket.now.empty();
        return had;
    }

    // ---- the board

    public boolean turn(int x, int y) throws IndexOutOfBoundsException {
        requireOnBoard(x, y);
        board.turnCoin(x, y);
        return board.isHeads(x, y);
    }

    public boolean isUp(int x, int y) throws IndexOutOfBoundsException {
        requireOnBoard(x, y);
        return board.isHeads(x, y);
    }

    public int worth() {
        return board.worthByTrying(numbers);
    }

    public int plays() {
        return board.countPlays();
    }

    public int play(int x, int y, int left, int below) throws IndexOutOfBoundsException, IllegalStateException {
        requireOnBoard(x, y);
        requireOnBoard(left, below);
        int code = Board.codeOf(x, y, left, below);
        if (!board.isPlay(code)) {
            throw new IllegalStateException("no such play");
        }
        board.makePlay(code);
        return board.worthByTrying(numbers);
    }

    public int best() {
        return board.bestPlay(numbers);
    }

    public int answer() {
        int code = board.bestPlay(numbers);
        if (code != NONE) {
            board.makePlay(code);
        }
        return code;
    }

    public int sweep() {
        return board.turnAllTails();
    }

    // ---- the whole

    public float share() {
        return (float) basket.now.count() / 256.0f;
    }

    public double mean() {
        return (double) registers.total() / 8.0;
    }

    public boolean isSound(int one, int other) throws IndexOutOfBoundsException {
        int a = registers.numberOf(one);
        int b = registers.numberOf(other);
        return numbers.areTriesSound(a, b)
                && numbers.areProductsSound(a, b)
                && numbers.areSquaresSound(a, b)
                && numbers.isQuotientSound(a, b)
                && numbers.areTracesSound(a, b);
    }

    public long checksum() {
        long c = registers.numbersMixedInto(17);
        c = basket.mixedInto(c);
        c = board.mixedInto(c);
        return mixed(c, registers.countKept());
    }

    private static long mixed(long c, int n) {
        return 31 * c + n;
    }

    private static void requireBetween(int least, int number, int most) {
        if (number < least || number > most) {
            throw new IllegalArgumentException("a number is out of its range");
        }
    }

    private static void requireOnBoard(int x, int y) {
        if (!Board.isPlace(x, y)) {
            throw new IndexOutOfBoundsException("no such place of the board");
        }
    }

    /** The arithmetic of the numbers; their SUM is ^ and has no method of its own. */
    private static final class Numbers {
        private static final int SMALL = 16;
        private static final int SQUARINGS_IN_ALL = 8;

        /** PRODUCTS of numbers below 16: those of greater ones are made of them. */
        private final int[] smallProducts = new int[SMALL * SMALL];
        private final NumberSet made = new NumberSet();

        Numbers() {
            // In this order, for a PRODUCT needs only those of earlier rows and of its row's begin.
            for (int a = 0; a < SMALL; a++) {
                for (int b = 0; b < SMALL; b++) {
                    smallProducts[SMALL * a + b] = productOf(a, b);
                }
            }
        }

        int productOf(int a, int b) {
            if (a < 2 || b < 2) {
                return a * b;
            }
            int greater = a > b ? a : b;
            int f = greater >= 16 ? 16 : greater >= 4 ? 4 : 2;
            int h = a / f;
            int l = a % f;
            int g = b / f;
            int k = b % f;
            int hg = smallProduct(h, g);
            int high = hg ^ smallProduct(h, k) ^ smallProduct(l, g);
            return (f * high) ^ smallProduct(l, k) ^ smallProduct(hg, f / 2);
        }

        private int smallProduct(int a, int b) {
            boolean isSmall = a >= 0 && a < SMALL && b >= 0 && b < SMALL;
            return isSmall ? smallProducts[SMALL * a + b] : 0;
        }

        int squareOf(int a) {
            return productOf(a, a);
        }

        int powerOf(int a, int exponent) {
            int result = 1;
            int factor = a;
            for (int left = exponent; left > 0; left /= 2) {
                if (left % 2 == 1) {
                    result = productOf(result, factor);
                }
                factor = squareOf(factor);
            }
            return result;
        }

        int rootOf(int a) {
            // The eighth squaring gives a again, so the seventh gives what a is the square of.
            return powerOf(a, 128);
        }

        int quotientOf(int a, int b) {
            // The 255th power of each b but 0 is 1, so the one before it is what b needs to be 1.
            return productOf(a, powerOf(b, 254));
        }

        int solutionOf(int wanted, boolean isGreater) {
            int found = NONE;
            for (int x = 0; x < NUMBERS; x++) {
                boolean isFree = found == NONE || isGreater;
                if (isFree && (squareOf(x) ^ x) == wanted) {
                    found = x;
                }
            }
            return found;
        }

        int traceOf(int a) {
            int trace = 0;
            int term = a;
            for (int i = 0; i < SQUARINGS_IN_ALL; i++) {
                trace ^= term;
                term = squareOf(term);
            }
            return trace;
        }

        int orderOf(int a) {
            int n = 1;
            for (int power = a; power != 1 && n < NUMBERS - 1; n++) {
                power = productOf(power, a);
            }
            return n;
        }

        int fieldOf(int a) {
            if (a < 2) {
                return 2;
            }
            if (a < 4) {
                return 4;
            }
            return a < 16 ? 16 : 256;
        }

        int squaringsOf(int a) {
            int n = 1;
            for (int square = squareOf(a); square != a && n < SQUARINGS_IN_ALL; n++) {
                square = squareOf(square);
            }
            return n;
        }

        int sumByTrying(int a, int b) {
            made.empty();
            for (int less = 0; less < a; less++) {
                made.add(less ^ b);
            }
            for (int less = 0; less < b; less++) {
                made.add(a ^ less);
            }
            return made.leastAbsent();
        }

        int productByTrying(int a, int b) {
            made.empty();
            for (int lessA = 0; lessA < a; lessA++) {
                for (int lessB = 0; lessB < b; lessB++) {
                    made.add(productOf(lessA, b) ^ productOf(a, lessB) ^ productOf(lessA, lessB));
                }
            }
            return made.leastAbsent();
        }

        boolean areClosedBelow(int n) {
            for (int a = 0; a < n; a++) {
                for (int b = 0; b < n; b++) {
                    if ((a ^ b) >= n || productOf(a, b) >= n) {
                        return false;
                    }
                }
            }
            return true;
        }

        boolean haveInversesBelow(int n) {
            for (int a = 1; a < n; a++) {
                if (!hasInverseBelow(a, n)) {
                    return false;
                }
            }
            return true;
        }

        private boolean hasInverseBelow(int a, int n) {
            for (int b = 0; b < n; b++) {
                if (productOf(a, b) == 1) {
                    return true;
                }
            }
            return false;
        }

        boolean areTriesSound(int a, int b) {
            int restA = a % PRODUCTS_TRIED;
            int restB = b % PRODUCTS_TRIED;
            return sumByTrying(a, b) == (a ^ b)
                    && productByTrying(restA, restB) == productOf(restA, restB);
        }

        boolean areProductsSound(int a, int b) {
            return productOf(a, b) == productOf(b, a)
                    && productOf(a, b ^ 1) == (productOf(a, b) ^ a);
        }

        boolean areSquaresSound(int a, int b) {
            return squareOf(a ^ b) == (squareOf(a) ^ squareOf(b))
                    && squareOf(rootOf(a)) == a;
        }

        boolean isQuotientSound(int a, int b) {
            return b == 0 || productOf(quotientOf(a, b), b) == a;
        }

        boolean areTracesSound(int a, int b) {
            return traceOf(a ^ b) == (traceOf(a) ^ traceOf(b));
        }
    }

    /** The registers, and the latest of their changes. */
    private static final class Registers {
        private static final int REGISTERS = 8;
        private static final int MOST_KEPT = 8;

        private final int[] values = new int[REGISTERS];
        /** The changes that are kept go round in these two rows. */
        private final int[] changed = new int[MOST_KEPT];
        private final int[] valueBefore = new int[MOST_KEPT];
        private int changes = 0;
        private int kept = 0;

        void requireRegister(int register) {
            if (register < 0 || register >= values.length) {
                throw new IndexOutOfBoundsException("no such register");
            }
        }

        int numberOf(int register) {
            requireRegister(register);
            return values[register];
        }

        private void store(int register, int number) {
            requireRegister(register);
            values[register] = number;
        }

        int change(int register, int number) {
            int before = numberOf(register);
            int slot = Math.floorMod(changes, MOST_KEPT);
            changed[slot] = register;
            valueBefore[slot] = before;
            changes++;
            kept = Math.min(kept + 1, MOST_KEPT);
            store(register, number);
            return number;
        }

        int takeBack() {
            if (kept == 0) {
                return NONE;
            }
            kept--;
            changes--;
            int slot = Math.floorMod(changes, MOST_KEPT);
            store(changed[slot], valueBefore[slot]);
            return changed[slot];
        }

        int countKept() {
            return kept;
        }

        int total() {
            int total = 0;
            for (int number : values) {
                total += number;
            }
            return total;
        }

        long numbersMixedInto(long begin) {
            long c = begin;
            for (int number : values) {
                c = mixed(c, number);
            }
            return c;
        }
    }

    /** A set of numbers 0 to 255; others are never in it. */
    private static final class NumberSet {
        private final boolean[] holds = new boolean[NUMBERS];

        private boolean canHold(int number) {
            return number >= 0 && number < holds.length;
        }

        boolean contains(int number) {
            return canHold(number) && holds[number];
        }

        boolean add(int number) {
            if (!canHold(number) || holds[number]) {
                return false;
            }
            holds[number] = true;
            return true;
        }

        boolean remove(int number) {
            if (!contains(number)) {
                return false;
            }
            holds[number] = false;
            return true;
        }

        int count() {
            int count = 0;
            for (boolean isHeld : holds) {
                if (isHeld) {
                    count++;
                }
            }
            return count;
        }

        /** Tells the number behind so many lesser ones of the set, or NONE. */
        int numberBehind(int lesserOnes) {
            int behind = 0;
            for (int number = 0; number < holds.length; number++) {
                if (holds[number]) {
                    if (behind == lesserOnes) {
                        return number;
                    }
                    behind++;
                }
            }
            return NONE;
        }

        int leastAbsent() {
            int number = 0;
            while (number < holds.length && holds[number]) {
                number++;
            }
            return number;
        }

        void empty() {
            for (int number = 0; number < holds.length; number++) {
                holds[number] = false;
            }
        }

        /** Takes what the other one holds, and tells how many numbers came. */
        int become(NumberSet other) {
            int came = 0;
            for (int number = 0; number < holds.length; number++) {
                boolean isHeld = other.contains(number);
                if (isHeld && !holds[number]) {
                    came++;
                }
                holds[number] = isHeld;
            }
            return came;
        }
    }

    /** The basket as it is now, and a second set in which its successor is made. */
    private static final class Basket {
        final NumberSet now = new NumberSet();
        private final NumberSet then = new NumberSet();

        int shiftBy(int shift) {
            then.empty();
            for (int number = 0; number < NUMBERS; number++) {
                if (now.contains(number)) {
                    then.add(number ^ shift);
                }
            }
            return now.become(then);
        }

        int scaleBy(int factor, Numbers numbers) {
            then.empty();
            for (int number = 0; number < NUMBERS; number++) {
                if (now.contains(number)) {
                    then.add(numbers.productOf(number, factor));
                }
            }
            now.become(then);
            return now.count();
        }

        /** Makes the SPAN in the second set, and tells the RANK. */
        int spread() {
            int rank = 0;
            then.empty();
            then.add(0);
            for (int number = 0; number < NUMBERS; number++) {
                if (now.contains(number) && !then.contains(number)) {
                    rank++;
                    widenSpanBy(number);
                }
            }
            return rank;
        }

        private void widenSpanBy(int number) {
            // A SUM that comes meanwhile gives only the one back that it was made of.
            for (int spanned = 0; spanned < NUMBERS; spanned++) {
                if (then.contains(spanned)) {
                    then.add(spanned ^ number);
                }
            }
        }

        boolean spans(int number) {
            spread();
            return then.contains(number);
        }

        int becomeSpan() {
            spread();
            return now.become(then);
        }

        long mixedInto(long begin) {
            long c = mixed(begin, now.count());
            for (int number = 0; number < NUMBERS; number++) {
                if (now.contains(number)) {
                    c = mixed(c, number);
                }
            }
            return c;
        }
    }

    /** The board: a bit for each place, 1 for heads up. A PLAY is known by its CODE. */
    private static final class Board {
        private static final int WIDTH = 4;
        private static final int PLACES = WIDTH * WIDTH;
        private static final int CODES = PLACES * PLACES;

        private final NumberSet made = new NumberSet();
        private int heads = 0;

        static boolean isPlace(int x, int y) {
            return x >= 0 && x < WIDTH && y >= 0 && y < WIDTH;
        }

        static int codeOf(int x, int y, int left, int below) {
            return 64 * x + 16 * y + 4 * left + below;
        }

        private static int bitOf(int x, int y) {
            return 1 << (WIDTH * x + y);
        }

        boolean isHeads(int x, int y) {
            return (heads & bitOf(x, y)) != 0;
        }

        void turnCoin(int x, int y) {
            heads ^= bitOf(x, y);
        }

        int turnAllTails() {
            int were = Integer.bitCount(heads);
            heads = 0;
            return were;
        }

        boolean isPlay(int code) {
            int x = code / 64;
            int y = code / 16 % 4;
            int left = code / 4 % 4;
            int below = code % 4;
            return isHeads(x, y) && left < x && below < y;
        }

        private int headsAfter(int code) {
            int x = code / 64;
            int y = code / 16 % 4;
            int left = code / 4 % 4;
            int below = code % 4;
            return heads ^ bitOf(x, y) ^ bitOf(left, y) ^ bitOf(x, below) ^ bitOf(left, below);
        }

        void makePlay(int code) {
            heads = headsAfter(code);
        }

        int countPlays() {
            int plays = 0;
            for (int code = 0; code < CODES; code++) {
                if (isPlay(code)) {
                    plays++;
                }
            }
            return plays;
        }

        int worthByTrying(Numbers numbers) {
            made.empty();
            for (int code = 0; code < CODES; code++) {
                if (isPlay(code)) {
                    made.add(worthOf(headsAfter(code), numbers));
                }
            }
            return made.leastAbsent();
        }

        int bestPlay(Numbers numbers) {
            for (int code = 0; code < CODES; code++) {
                if (isPlay(code) && worthOf(headsAfter(code), numbers) == 0) {
                    return code;
                }
            }
            return NONE;
        }

        /**
         * The WORTH of a board is the SUM of those of its coins, each taken alone, for a board is
         * those games side by side; and a coin at x, y alone has the PRODUCT of x and y. So no plays
         * behind the next one need be tried.
         */
        private static int worthOf(int board, Numbers numbers) {
            int worth = 0;
            for (int place = 0; place < PLACES; place++) {
                if ((board >> place & 1) == 1) {
                    worth ^= numbers.productOf(place / WIDTH, place % WIDTH);
                }
            }
            return worth;
        }

        long mixedInto(long begin) {
            long c = begin;
            for (int place = 0; place < PLACES; place++) {
                c = mixed(c, heads >> place & 1);
            }
            return c;
        }
    }
}
