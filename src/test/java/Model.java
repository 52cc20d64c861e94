import java.util.ArrayDeque;
import java.util.ArrayList;
import java.util.Deque;
import java.util.List;
import java.util.NoSuchElementException;
import java.util.TreeSet;

/**
 * The document once more, by other means than the class: PRODUCTS by trying for all numbers, WORTHS
 * by trying all boards, powers by multiplying, SUMS of a basket by listing them.
 */
public final class Model {
    private static final int[][] PRODUCTS = productsByTrying();
    private static final int[] WORTHS = worthsByTrying();

    private final int[] registers = new int[8];
    private final Deque<int[]> kept = new ArrayDeque<>();
    private TreeSet<Integer> basket = new TreeSet<>();
    private final boolean[][] coins = new boolean[4][4];

    static int productTold(int a, int b) {
        return PRODUCTS[a][b];
    }

    static int worthTold(int board) {
        return WORTHS[board];
    }

    private static int[][] productsByTrying() {
        int[][] p = new int[256][256];
        int[] stamp = new int[256];
        int round = 0;
        for (int a = 0; a < 256; a++) {
            for (int b = 0; b <= a; b++) {
                round++;
                for (int i = 0; i < a; i++) {
                    for (int j = 0; j < b; j++) {
                        stamp[p[i][b] ^ p[a][j] ^ p[i][j]] = round;
                    }
                }
                int least = 0;
                while (stamp[least] == round) {
                    least++;
                }
                p[a][b] = least;
                p[b][a] = least;
            }
        }
        return p;
    }

    private static int[] worthsByTrying() {
        int[] worths = new int[1 << 16];
        for (int board = 0; board < worths.length; board++) {
            TreeSet<Integer> led = new TreeSet<>();
            for (int after : boardsAfter(board)) {
                led.add(worths[after]);
            }
            int least = 0;
            while (led.contains(least)) {
                least++;
            }
            worths[board] = least;
        }
        return worths;
    }

    private static List<Integer> boardsAfter(int board) {
        List<Integer> after = new ArrayList<>();
        for (int x = 0; x < 4; x++) {
            for (int y = 0; y < 4; y++) {
                if ((board & bit(x, y)) == 0) {
                    continue;
                }
                for (int left = 0; left < x; left++) {
                    for (int below = 0; below < y; below++) {
                        after.add(board ^ (bit(x, y) | bit(left, y) | bit(x, below) | bit(left, below)));
                    }
                }
            }
        }
        return after;
    }

    private static int bit(int x, int y) {
        return 1 << (4 * x + y);
    }

    private static int plus(int a, int b) {
        int sum = 0;
        for (int digit = 1; digit < 256; digit *= 2) {
            if (a / digit % 2 != b / digit % 2) {
                sum += digit;
            }
        }
        return sum;
    }

    private static void register(int... all) {
        for (int r : all) {
            if (r < 0 || r > 7) {
                throw new IndexOutOfBoundsException();
            }
        }
    }

    private static void place(int... all) {
        for (int p : all) {
            if (p < 0 || p > 3) {
                throw new IndexOutOfBoundsException();
            }
        }
    }

    private static void range(int least, int most, int... all) {
        for (int n : all) {
            if (n < least || n > most) {
                throw new IllegalArgumentException();
            }
        }
    }

    private int changed(int to, int number) {
        kept.addLast(new int[] {to, registers[to]});
        if (kept.size() > 8) {
            kept.removeFirst();
        }
        registers[to] = number;
        return number;
    }

    public int set(int register, int number) {
        register(register);
        range(0, 255, number);
        int before = registers[register];
        changed(register, number);
        return before;
    }

    public int sum(int to, int one, int other) {
        register(to, one, other);
        return changed(to, plus(registers[one], registers[other]));
    }

    public int product(int to, int one, int other) {
        register(to, one, other);
        return changed(to, PRODUCTS[registers[one]][registers[other]]);
    }

    public int quotient(int to, int one, int other) {
        register(to, one, other);
        if (registers[other] == 0) {
            throw new ArithmeticException();
        }
        return changed(to, divided(registers[one], registers[other]));
    }

    private static int divided(int a, int b) {
        int x = 0;
        while (PRODUCTS[x][b] != a) {
            x++;
        }
        return x;
    }

    public int power(int to, int one, int exponent) {
        register(to, one);
        range(0, Integer.MAX_VALUE, exponent);
        // Powers but the 0th come again behind 255.
        int times = exponent == 0 ? 0 : (exponent - 1) % 255 + 1;
        int power = 1;
        for (int i = 0; i < times; i++) {
            power = PRODUCTS[power][registers[one]];
        }
        return changed(to, power);
    }

    public int root(int to, int one) {
        register(to, one);
        return changed(to, rooted(registers[one]));
    }

    private static int rooted(int a) {
        int x = 0;
        while (PRODUCTS[x][x] != a) {
            x++;
        }
        return x;
    }

    public int solve(int to, int one, boolean isGreater) {
        register(to, one);
        TreeSet<Integer> found = new TreeSet<>();
        for (int x = 0; x < 256; x++) {
            if (plus(PRODUCTS[x][x], x) == registers[one]) {
                found.add(x);
            }
        }
        if (found.isEmpty()) {
            throw new NoSuchElementException();
        }
        return changed(to, isGreater ? found.last() : found.first());
    }

    public int undo() {
        if (kept.isEmpty()) {
            return -1;
        }
        int[] change = kept.removeLast();
        registers[change[0]] = change[1];
        return change[0];
    }

    public int at(int register) {
        register(register);
        return registers[register];
    }

    public int trace(int register) {
        register(register);
        return traced(registers[register]);
    }

    private static int traced(int a) {
        int trace = 0;
        for (int i = 0, n = a; i < 8; i++, n = PRODUCTS[n][n]) {
            trace = plus(trace, n);
        }
        return trace;
    }

    public int order(int register) {
        register(register);
        int a = registers[register];
        if (a == 0) {
            throw new ArithmeticException();
        }
        int n = 1;
        for (int p = a; p != 1; p = PRODUCTS[p][a]) {
            n++;
        }
        return n;
    }

    public int field(int register) {
        register(register);
        for (int below : new int[] {2, 4, 16}) {
            if (registers[register] < below) {
                return below;
            }
        }
        return 256;
    }

    public int squarings(int register) {
        register(register);
        int a = registers[register];
        int n = 1;
        for (int s = PRODUCTS[a][a]; s != a; s = PRODUCTS[s][s]) {
            n++;
        }
        return n;
    }

    public int triedSum(int a, int b) {
        range(0, 255, a, b);
        return plus(a, b);
    }

    public int triedProduct(int a, int b) {
        range(0, 15, a, b);
        return PRODUCTS[a][b];
    }

    public int times(int a, int b) {
        range(0, 255, a, b);
        return PRODUCTS[a][b];
    }

    public boolean isField(int n) {
        range(1, 16, n);
        return n == 2 || n == 4 || n == 16;
    }

    public boolean put(int number) {
        range(0, 255, number);
        return basket.add(number);
    }

    public boolean take(int number) {
        return basket.remove(number);
    }

    public boolean has(int number) {
        return basket.contains(number);
    }

    public int size() {
        return basket.size();
    }

    public int numberAt(int place) {
        if (place < 0 || place >= basket.size()) {
            throw new IndexOutOfBoundsException();
        }
        return new ArrayList<>(basket).get(place);
    }

    public int leastOut() {
        int least = 0;
        while (basket.contains(least)) {
            least++;
        }
        return least;
    }

    private int replaced(TreeSet<Integer> next) {
        TreeSet<Integer> came = new TreeSet<>(next);
        came.removeAll(basket);
        basket = next;
        return came.size();
    }

    public int shift(int number) {
        range(0, 255, number);
        TreeSet<Integer> next = new TreeSet<>();
        for (int n : basket) {
            next.add(plus(n, number));
        }
        return replaced(next);
    }

    public int scale(int number) {
        range(0, 255, number);
        TreeSet<Integer> next = new TreeSet<>();
        for (int n : basket) {
            next.add(PRODUCTS[n][number]);
        }
        replaced(next);
        return basket.size();
    }

    private static TreeSet<Integer> spanOf(Iterable<Integer> all) {
        TreeSet<Integer> span = new TreeSet<>();
        span.add(0);
        for (int n : all) {
            for (int s : new ArrayList<>(span)) {
                span.add(plus(s, n));
            }
        }
        return span;
    }

    public int rank() {
        int rank = 0;
        for (int n : basket) {
            if (!spanOf(basket.headSet(n)).contains(n)) {
                rank++;
            }
        }
        return rank;
    }

    public boolean isSpanned(int number) {
        range(0, 255, number);
        return spanOf(basket).contains(number);
    }

    public int close() {
        return replaced(spanOf(basket));
    }

    public int clear() {
        int had = basket.size();
        basket.clear();
        return had;
    }

    private int board() {
        int board = 0;
        for (int x = 0; x < 4; x++) {
            for (int y = 0; y < 4; y++) {
                board |= coins[x][y] ? bit(x, y) : 0;
            }
        }
        return board;
    }

    public boolean turn(int x, int y) {
        place(x, y);
        coins[x][y] = !coins[x][y];
        return coins[x][y];
    }

    public boolean isUp(int x, int y) {
        place(x, y);
        return coins[x][y];
    }

    public int worth() {
        return WORTHS[board()];
    }

    public int plays() {
        return boardsAfter(board()).size();
    }

    public int play(int x, int y, int left, int below) {
        place(x, y, left, below);
        if (!coins[x][y] || left >= x || below >= y) {
            throw new IllegalStateException();
        }
        turn(x, y);
        turn(left, y);
        turn(x, below);
        turn(left, below);
        return worth();
    }

    public int best() {
        TreeSet<Integer> codes = new TreeSet<>();
        for (int x = 0; x < 4; x++) {
            for (int y = 0; y < 4; y++) {
                for (int left = 0; coins[x][y] && left < x; left++) {
                    for (int below = 0; below < y; below++) {
                        int turned = bit(x, y) | bit(left, y) | bit(x, below) | bit(left, below);
                        if (WORTHS[board() ^ turned] == 0) {
                            codes.add(64 * x + 16 * y + 4 * left + below);
                        }
                    }
                }
            }
        }
        return codes.isEmpty() ? -1 : codes.first();
    }

    public int answer() {
        int code = best();
        if (code >= 0) {
            play(code / 64, code / 16 % 4, code / 4 % 4, code % 4);
        }
        return code;
    }

    public int sweep() {
        int were = 0;
        for (boolean[] row : coins) {
            for (int y = 0; y < 4; y++) {
                were += row[y] ? 1 : 0;
                row[y] = false;
            }
        }
        return were;
    }

    public float share() {
        return (float) basket.size() / 256.0f;
    }

    public double mean() {
        int total = 0;
        for (int number : registers) {
            total += number;
        }
        return (double) total / 8.0;
    }

    public boolean isSound(int one, int other) {
        register(one, other);
        return true;
    }

    public long checksum() {
        long c = 17;
        for (int number : registers) {
            c = 31 * c + number;
        }
        c = 31 * c + basket.size();
        for (int number : basket) {
            c = 31 * c + number;
        }
        for (boolean[] row : coins) {
            for (boolean isUp : row) {
                c = 31 * c + (isUp ? 1 : 0);
            }
        }
        return 31 * c + kept.size();
    }
}
