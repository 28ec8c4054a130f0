import java.util.Arrays;

/**
 * Adds points of a curve over the whole numbers modulo a small prime, reads and writes them as
 * bytes, and makes and checks signatures with numbers that are drawn from key and message alone.
 *
 * <p>Inside, a point is one int, x * 65536 + y, so that no reckoning makes objects.
 */
public final class PrimeCurveSigner {
    private static final int REGISTERS = 4;
    private static final int LEAST_PRIME = 5;
    private static final int GREATEST_PRIME = 1021;
    private static final int MOST_DRAWS = 24;
    private static final int MIX_FACTOR = 668265261;

    private static final int INFINITY = -1;
    private static final int NO_POINT = -2;
    private static final int NO_ROOT = -1;
    private static final int NO_KEY = 0;
    private static final long NO_SIGNATURE = 0L;

    private final int[] registers;
    /** Scratch of one call of curve; kept so that its calls need no new row each. */
    private final int[] rootCounts;
    private Curve taken;
    private int secret;
    private int latestDraws;

    public PrimeCurveSigner() {
        registers = new int[REGISTERS];
        rootCounts = new int[GREATEST_PRIME];
        Arrays.fill(registers, INFINITY);
        taken = null;
        secret = NO_KEY;
        latestDraws = 0;
    }

    public int curve(int p, int a, int b) throws IllegalArgumentException {
        if (!isCurve(p, a, b)) {
            throw new IllegalArgumentException("no curve");
        }
        int n = countPoints(p, a, b);
        if (n <= 2 || !isPrime(n)) {
            throw new IllegalArgumentException("the order is no prime greater than 2");
        }
        taken = new Curve(p, a, b, n);
        Arrays.fill(registers, INFINITY);
        secret = NO_KEY;
        return n;
    }

    public int order() {
        return taken == null ? 0 : taken.n;
    }

    public void load(int r, int x, int y) throws IllegalStateException, IndexOutOfBoundsException, IllegalArgumentException {
        Curve c = takenCurve();
        checkRegister(r);
        if (!c.holds(x, y)) {
            throw new IllegalArgumentException("no point of the curve");
        }
        registers[r] = pointAt(x, y);
    }

    public void base(int r) throws IllegalStateException, IndexOutOfBoundsException {
        Curve c = takenCurve();
        checkRegister(r);
        registers[r] = c.basePoint;
    }

    public void sum(int d, int a, int b) throws IllegalStateException, IndexOutOfBoundsException {
        Curve c = takenCurve();
        checkRegister(d);
        checkRegister(a);
        checkRegister(b);
        registers[d] = c.plus(registers[a], registers[b]);
    }

    public void times(int d, int k, int a) throws IllegalStateException, IndexOutOfBoundsException {
        Curve c = takenCurve();
        checkRegister(d);
        checkRegister(a);
        registers[d] = c.multiple(k, registers[a]);
    }

    public int x(int r) throws IndexOutOfBoundsException {
        checkRegister(r);
        return registers[r] == INFINITY ? -1 : xOf(registers[r]);
    }

    public int y(int r) throws IndexOutOfBoundsException {
        checkRegister(r);
        return registers[r] == INFINITY ? -1 : yOf(registers[r]);
    }

    public long code(int r, boolean shortly) throws IndexOutOfBoundsException {
        checkRegister(r);
        int point = registers[r];
        if (point == INFINITY) {
            return 0L;
        }
        return shortly ? shortNumber(point) : plainNumber(point);
    }

    public void decode(int d, int bytes, long number) throws IllegalStateException, IndexOutOfBoundsException, IllegalArgumentException {
        Curve c = takenCurve();
        checkRegister(d);
        int point = c.pointOfBytes(bytes, number);
        if (point == NO_POINT) {
            throw new IllegalArgumentException("not well-formed");
        }
        registers[d] = point;
    }

    public void key(int r, int d) throws IllegalStateException, IndexOutOfBoundsException, IllegalArgumentException {
        Curve c = takenCurve();
        checkRegister(r);
        if (!c.isUnit(d)) {
            throw new IllegalArgumentException("no key of the curve");
        }
        secret = d;
        registers[r] = c.multiple(d, c.basePoint);
    }

    public long sign(long z) throws IllegalStateException, ArithmeticException {
        Curve c = takenCurve();
        if (secret == NO_KEY) {
            throw new IllegalStateException("no key");
        }
        int e = c.messageResidue(z);
        int mask = c.drawMask();
        int stirrer = mix(0, 1 + secret);
        int value = mix(stirrer, 1);
        stirrer = mix(stirrer, value ^ e);
        value = mix(stirrer, value);
        for (int draw = 1; draw <= MOST_DRAWS; draw++) {
            value = mix(stirrer, value);
            long signature = c.signatureFrom(value & mask, e, secret);
            if (signature != NO_SIGNATURE) {
                latestDraws = draw;
                return signature;
            }
            stirrer = mix(stirrer, value + 1);
            value = mix(stirrer, value);
        }
        throw new ArithmeticException("signing fails");
    }

    public int draws() {
        return latestDraws;
    }

    public boolean verify(int q, long z, int r, int s) throws IllegalStateException, IndexOutOfBoundsException {
        Curve c = takenCurve();
        checkRegister(q);
        return c.fits(registers[q], z, r, s);
    }

    public boolean accepts(int bytes, long number, long z, int r, int s) throws IllegalStateException {
        Curve c = takenCurve();
        int point = c.pointOfBytes(bytes, number);
        return point != NO_POINT && c.fits(point, z, r, s);
    }

    private Curve takenCurve() {
        if (taken == null) {
            throw new IllegalStateException("no curve was taken yet");
        }
        return taken;
    }

    private static void checkRegister(int r) {
        if (r < 0 || r >= REGISTERS) {
            throw new IndexOutOfBoundsException("no such register");
        }
    }

    private static boolean isCurve(int p, int a, int b) {
        if (p < LEAST_PRIME || p > GREATEST_PRIME || !isPrime(p)) {
            return false;
        }
        if (a < 0 || a >= p || b < 0 || b >= p) {
            return false;
        }
        return (4 * (a * a % p * a % p) + 27 * (b * b % p)) % p != 0;
    }

    private static boolean isPrime(int number) {
        for (int divisor = 2; divisor * divisor <= number; divisor++) {
            if (number % divisor == 0) {
                return false;
            }
        }
        return number >= 2;
    }

    /** Counts by the squares' table, for trying every pair x, y would take a million steps. */
    private int countPoints(int p, int a, int b) {
        Arrays.fill(rootCounts, 0);
        for (int y = 0; y < p; y++) {
            rootCounts[y * y % p]++;
        }
        int count = 1;
        for (int x = 0; x < p; x++) {
            count += rootCounts[cubic(p, a, b, x)];
        }
        return count;
    }

    private static int cubic(int p, int a, int b, int x) {
        return ((x * x + a) % p * x + b) % p;
    }

    private static int pointAt(int x, int y) {
        return x * 65536 + y;
    }

    private static int xOf(int point) {
        return point >> 16;
    }

    private static int yOf(int point) {
        return point & 65535;
    }

    private static long shortNumber(int point) {
        return (2 + yOf(point) % 2) * 65536L + xOf(point);
    }

    private static long plainNumber(int point) {
        return (4L << 32) + point;
    }

    private static int mix(int u, int v) {
        int w = (u ^ v) * MIX_FACTOR + u;
        return w + (w << 7 | w >>> 25);
    }

    private static int quotient(int top, int bottom, int prime) {
        return Math.floorMod(top, prime) * inverse(Math.floorMod(bottom, prime), prime) % prime;
    }

    /** By Fermat: the power prime - 2 of a number is its inverse modulo the prime. */
    private static int inverse(int number, int prime) {
        int result = 1;
        int square = number;
        for (int exponent = prime - 2; exponent > 0; exponent >>= 1) {
            if ((exponent & 1) == 1) {
                result = result * square % prime;
            }
            square = square * square % prime;
        }
        return result;
    }

    /** A curve that is taken: p is a prime from 5 to 1021, the order n is a prime greater than 2. */
    private static final class Curve {
        final int p;
        final int a;
        final int b;
        final int n;
        final int basePoint;

        Curve(int p, int a, int b, int n) {
            this.p = p;
            this.a = a;
            this.b = b;
            this.n = n;
            this.basePoint = leastPoint(p, a, b);
        }

        private static int leastPoint(int p, int a, int b) {
            for (int x = 0; x < p; x++) {
                int y = lesserRoot(cubic(p, a, b, x), p);
                if (y != NO_ROOT) {
                    return pointAt(x, y);
                }
            }
            return INFINITY;
        }

        private static int lesserRoot(int square, int p) {
            for (int y = 0; y <= p / 2; y++) {
                if (y * y % p == square) {
                    return y;
                }
            }
            return NO_ROOT;
        }

        boolean holds(int x, int y) {
            return x >= 0 && x < p && y >= 0 && y < p && y * y % p == cubic(p, a, b, x);
        }

        boolean isUnit(int number) {
            return number >= 1 && number < n;
        }

        int messageResidue(long z) {
            return (int) Math.floorMod(z, (long) n);
        }

        int plus(int first, int second) {
            if (first == INFINITY) {
                return second;
            }
            if (second == INFINITY) {
                return first;
            }
            int x = xOf(first);
            int u = xOf(second);
            if (x == u && yOf(first) + yOf(second) == p) {
                return INFINITY;
            }
            int m = slope(first, second);
            int w = Math.floorMod(m * m - x - u, p);
            return pointAt(w, Math.floorMod(m * (x - w) - yOf(first), p));
        }

        private int slope(int first, int second) {
            int x = xOf(first);
            int y = yOf(first);
            if (first == second) {
                return quotient(3 * x * x + a, 2 * y, p);
            }
            return quotient(yOf(second) - y, xOf(second) - x, p);
        }

        int multiple(int k, int point) {
            int result = INFINITY;
            int doubled = point;
            for (int rest = Math.floorMod(k, n); rest > 0; rest >>= 1) {
                if ((rest & 1) == 1) {
                    result = plus(result, doubled);
                }
                doubled = plus(doubled, doubled);
            }
            return result;
        }

        int pointOfBytes(int bytes, long number) {
            if (bytes == 1) {
                return number == 0L ? INFINITY : NO_POINT;
            }
            if (bytes == 3) {
                return pointOfShort(number);
            }
            return bytes == 5 ? pointOfPlain(number) : NO_POINT;
        }

        private int pointOfShort(long number) {
            long first = number >> 16;
            int x = (int) (number & 65535L);
            if (first != 2L && first != 3L || x >= p) {
                return NO_POINT;
            }
            int y = lesserRoot(cubic(p, a, b, x), p);
            if (y == NO_ROOT) {
                return NO_POINT;
            }
            // p is odd and no y is 0, so just one of y and p - y is even.
            return pointAt(x, y % 2 == first - 2L ? y : p - y);
        }

        private int pointOfPlain(long number) {
            int x = (int) (number >> 16 & 65535L);
            int y = (int) (number & 65535L);
            return number >> 32 == 4L && holds(x, y) ? pointAt(x, y) : NO_POINT;
        }

        /** The least of 1, 3, 7, 15, .. that is at least n. */
        int drawMask() {
            int mask = 1;
            for (int bits = 1; bits < 31 && mask < n; bits++) {
                mask = mask * 2 + 1;
            }
            return mask;
        }

        long signatureFrom(int k, int e, int d) {
            if (!isUnit(k)) {
                return NO_SIGNATURE;
            }
            int r = xOf(multiple(k, basePoint)) % n;
            int s = quotient(e + r * d, k, n);
            return r == 0 || s == 0 ? NO_SIGNATURE : r * 65536L + s;
        }

        boolean fits(int point, long z, int r, int s) {
            if (point == INFINITY || !isUnit(r) || !isUnit(s)) {
                return false;
            }
            int t = inverse(s, n);
            int fromMessage = multiple(messageResidue(z) * t % n, basePoint);
            int found = plus(fromMessage, multiple(r * t % n, point));
            return found != INFINITY && xOf(found) % n == r;
        }
    }
}
