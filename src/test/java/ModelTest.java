import java.util.ArrayList;
import java.util.HashMap;
import java.util.List;
import java.util.Map;
import java.util.Random;
import java.util.TreeMap;

/**
 * Makes the same calls on the program and on a slow model that follows the document's words (points
 * found by trying all pairs, multiples by adding again and again), and compares every answer, every
 * exception and, after every call, all that can be seen of the state.
 */
public final class ModelTest {
    private static final int RUNS = 3000;
    /** With the calls that look at the state afterwards no object comes to 512 calls. */
    private static final int CALLS_OF_A_RUN = 56;
    private static final int[] SMALL_PRIMES = {5, 7, 11, 13, 17, 19, 23, 29, 31};
    private static final int[] LARGE_PRIMES = {67, 251, 257, 509, 521, 751, 977, 1009, 1013, 1019, 1021};

    private static final Map<String, Integer> SEEN = new TreeMap<>();
    private static int wrong = 0;

    public static void main(String[] args) {
        allSmallCurves();
        for (int run = 0; run < RUNS && wrong == 0; run++) {
            new Run(run).go();
        }
        checkSeen();
        System.out.println(wrong == 0 ? "program and model agree" : wrong + " answers differ from the model's");
        if (wrong != 0) {
            System.exit(1);
        }
    }

    /** Every p up to 43, prime or not, with every a and b and a little beyond. */
    private static void allSmallCurves() {
        for (int p = -2; p <= 43; p++) {
            for (int a = -1; a <= p + 1; a++) {
                PrimeCurveSigner program = new PrimeCurveSigner();
                for (int b = -1; b <= p + 1; b++) {
                    compareCurve(program, p, a, b);
                }
            }
        }
        Random random = new Random(7);
        for (int i = 0; i < 400; i++) {
            int p = 900 + random.nextInt(200);
            compareCurve(new PrimeCurveSigner(), p, random.nextInt(p), random.nextInt(p));
        }
    }

    private static void compareCurve(PrimeCurveSigner program, int p, int a, int b) {
        Field field = Field.of(p, a, b);
        int want = field == null ? -1 : field.n;
        int got;
        try {
            got = program.curve(p, a, b);
        } catch (IllegalArgumentException e) {
            got = -1;
        }
        String call = "curve(" + p + ", " + a + ", " + b + ")";
        differ(call, got, want);
        if (field != null && got == want) {
            program.base(1);
            differ(call + " base x", program.x(1), field.points.get(0)[0]);
            differ(call + " base y", program.y(1), field.points.get(0)[1]);
        }
    }

    private static void differ(String call, long got, long want) {
        if (got != want) {
            wrong++;
            System.out.println(call + " answered " + got + ", the model says " + want);
        }
    }

    private static void seen(String what) {
        SEEN.merge(what, 1, Integer::sum);
    }

    private static void checkSeen() {
        String[] due = {
            "k out of bounds", "r is 0 by x 0", "r is 0 by x n", "s is 0", "signed", "signed with x above n",
            "signing failed", "fits", "fits not", "sum is INFINITY", "sum of the same", "sum of others",
            "sum with INFINITY", "decoded 1", "decoded 3", "decoded 5", "not well-formed", "accepts", "key",
            "IllegalStateException", "IndexOutOfBoundsException", "IllegalArgumentException", "ArithmeticException"
        };
        for (String what : due) {
            if (!SEEN.containsKey(what)) {
                wrong++;
                System.out.println("the runs never saw: " + what);
            }
        }
    }

    /** A curve that is taken, with all its points in order; INFINITY is null. */
    private static final class Field {
        static final Map<String, Field> KNOWN = new HashMap<>();
        final int p;
        final int a;
        final int n;
        final List<int[]> points = new ArrayList<>();

        private Field(int p, int a, int b) {
            this.p = p;
            this.a = a;
            int[] squares = new int[p];
            for (int y = 0; y < p; y++) {
                squares[y] = y * y % p;
            }
            for (int x = 0; x < p; x++) {
                int right = (int) (((long) x * x * x + (long) a * x + b) % p);
                for (int y = 0; y < p; y++) {
                    if (squares[y] == right) {
                        points.add(new int[] {x, y});
                    }
                }
            }
            this.n = points.size() + 1;
        }

        static Field of(int p, int a, int b) {
            if (p < 5 || p > 1021 || !isPrime(p) || a < 0 || a >= p || b < 0 || b >= p) {
                return null;
            }
            if ((4L * a * a * a + 27L * b * b) % p == 0) {
                return null;
            }
            String name = p + " " + a + " " + b;
            if (!KNOWN.containsKey(name)) {
                Field field = new Field(p, a, b);
                KNOWN.put(name, field.n > 2 && isPrime(field.n) ? field : null);
            }
            return KNOWN.get(name);
        }

        static boolean isPrime(int number) {
            for (int i = 2; i < number; i++) {
                if (number % i == 0) {
                    return false;
                }
            }
            return number > 1;
        }

        static int dividing(long top, long bottom, int prime) {
            long below = Math.floorMod(bottom, (long) prime);
            for (int t = 1; t < prime; t++) {
                if (below * t % prime == 1) {
                    return (int) (Math.floorMod(top, (long) prime) * t % prime);
                }
            }
            throw new AssertionError("no division by " + bottom);
        }

        int[] sum(int[] one, int[] two) {
            if (one == null || two == null) {
                seen("sum with INFINITY");
                return one == null ? two : one;
            }
            if (one[0] == two[0] && one[1] == p - two[1]) {
                seen("sum is INFINITY");
                return null;
            }
            boolean same = one[0] == two[0] && one[1] == two[1];
            seen(same ? "sum of the same" : "sum of others");
            long m = same
                ? dividing(3L * one[0] * one[0] + a, 2L * one[1], p)
                : dividing(two[1] - one[1], two[0] - one[0], p);
            long w = Math.floorMod(m * m - one[0] - two[0], (long) p);
            return new int[] {(int) w, (int) Math.floorMod(m * (one[0] - w) - one[1], (long) p)};
        }

        int[] times(long k, int[] point) {
            int[] added = k < 0 && point != null ? new int[] {point[0], p - point[1]} : point;
            int[] result = null;
            long left = Math.abs(k) % n;
            for (long i = 0; i < left; i++) {
                result = sum(result, added);
            }
            return result;
        }

        int[] find(int x, int y) {
            for (int[] point : points) {
                if (point[0] == x && point[1] == y) {
                    return point;
                }
            }
            return null;
        }

        static int[] bytesOf(int[] point, boolean shortly) {
            if (point == null) {
                return new int[] {0};
            }
            int x = point[0];
            int y = point[1];
            return shortly
                ? new int[] {2 + y % 2, x / 256, x % 256}
                : new int[] {4, x / 256, x % 256, y / 256, y % 256};
        }

        static long together(int[] bytes) {
            long number = 0;
            for (int each : bytes) {
                number = number * 256 + each;
            }
            return number;
        }

        /** An array with the point, or null when not well-formed. */
        int[][] decoded(int count, long number) {
            for (int form = 0; form < 2; form++) {
                for (int i = -1; i < points.size(); i++) {
                    int[] point = i < 0 ? null : points.get(i);
                    int[] bytes = bytesOf(point, form == 0);
                    if (bytes.length == count && together(bytes) == number) {
                        return new int[][] {point};
                    }
                }
            }
            return null;
        }

        boolean fits(int[] q, long z, int r, int s) {
            if (q == null || r < 1 || r >= n || s < 1 || s >= n) {
                return false;
            }
            long e = Math.floorMod(z, (long) n);
            long t = dividing(1, s, n);
            int[] found = sum(times(e * t, points.get(0)), times(r * t, q));
            return found != null && found[0] % n == r;
        }
    }

    private static final class Model {
        private static final long LOW = 0xffffffffL;
        Field field;
        int[][] registers = new int[4][];
        int secret;
        int draws;

        void needCurve() {
            if (field == null) {
                throw new IllegalStateException();
            }
        }

        void needRegisters(int... numbers) {
            for (int r : numbers) {
                if (r < 0 || r > 3) {
                    throw new IndexOutOfBoundsException();
                }
            }
        }

        long curve(int p, int a, int b) {
            Field next = Field.of(p, a, b);
            if (next == null) {
                throw new IllegalArgumentException();
            }
            field = next;
            registers = new int[4][];
            secret = 0;
            return field.n;
        }

        void load(int r, int x, int y) {
            needCurve();
            needRegisters(r);
            int[] point = field.find(x, y);
            if (point == null) {
                throw new IllegalArgumentException();
            }
            registers[r] = point;
        }

        void base(int r) {
            needCurve();
            needRegisters(r);
            registers[r] = field.points.get(0);
        }

        void sum(int d, int a, int b) {
            needCurve();
            needRegisters(d, a, b);
            registers[d] = field.sum(registers[a], registers[b]);
        }

        void times(int d, int k, int a) {
            needCurve();
            needRegisters(d, a);
            registers[d] = field.times(k, registers[a]);
        }

        long code(int r, boolean shortly) {
            needRegisters(r);
            return Field.together(Field.bytesOf(registers[r], shortly));
        }

        long coordinate(int r, int which) {
            needRegisters(r);
            return registers[r] == null ? -1 : registers[r][which];
        }

        void decode(int d, int bytes, long number) {
            needCurve();
            needRegisters(d);
            int[][] found = field.decoded(bytes, number);
            seen(found == null ? "not well-formed" : "decoded " + bytes);
            if (found == null) {
                throw new IllegalArgumentException();
            }
            registers[d] = found[0];
        }

        void key(int r, int d) {
            needCurve();
            needRegisters(r);
            if (d < 1 || d > field.n - 1) {
                throw new IllegalArgumentException();
            }
            seen("key");
            secret = d;
            registers[r] = field.times(d, field.points.get(0));
        }

        static long mix(long u, long v) {
            long w = ((u ^ v) * 668265261L + u) & LOW;
            long turned = w * 128 % (LOW + 1) + w / (1L << 25);
            return (w + turned) & LOW;
        }

        long sign(long z) {
            needCurve();
            if (secret == 0) {
                throw new IllegalStateException();
            }
            long e = Math.floorMod(z, (long) field.n);
            long f = 1;
            while (f < field.n) {
                f = 2 * f + 1;
            }
            long k = 0;
            long v = 1;
            k = mix(k, v + secret & LOW);
            v = mix(k, v);
            k = mix(k, v ^ e);
            v = mix(k, v);
            for (int draw = 1; ; draw++) {
                v = mix(k, v);
                long signature = attempt(v & f, e);
                if (signature != 0) {
                    draws = draw;
                    return signature;
                }
                if (draw == 24) {
                    seen("signing failed");
                    throw new ArithmeticException();
                }
                k = mix(k, v + 1 & LOW);
                v = mix(k, v);
            }
        }

        private long attempt(long k, long e) {
            int n = field.n;
            if (k < 1 || k > n - 1) {
                seen("k out of bounds");
                return 0;
            }
            int x = field.times(k, field.points.get(0))[0];
            int r = x % n;
            int s = Field.dividing(e + (long) r * secret, k, n);
            if (r == 0) {
                seen(x == 0 ? "r is 0 by x 0" : "r is 0 by x n");
            } else if (s == 0) {
                seen("s is 0");
            } else {
                seen(x > n ? "signed with x above n" : "signed");
            }
            return r == 0 || s == 0 ? 0 : r * 65536L + s;
        }

        long verify(int q, long z, int r, int s) {
            needCurve();
            needRegisters(q);
            boolean fit = field.fits(registers[q], z, r, s);
            seen(fit ? "fits" : "fits not");
            return fit ? 1 : 0;
        }

        long accepts(int bytes, long number, long z, int r, int s) {
            needCurve();
            int[][] found = field.decoded(bytes, number);
            boolean fit = found != null && field.fits(found[0], z, r, s);
            if (fit) {
                seen("accepts");
            }
            return fit ? 1 : 0;
        }
    }

    private interface Call {
        long answer();
    }

    private static final class Run {
        private final int number;
        private final Random random;
        private final PrimeCurveSigner program = new PrimeCurveSigner();
        private final Model model = new Model();
        private final StringBuilder told = new StringBuilder();
        private long latestMessage = 0;
        private long latestSignature = 0;

        Run(int number) {
            this.number = number;
            this.random = new Random(number);
        }

        void go() {
            for (int i = 0; i < CALLS_OF_A_RUN && wrong == 0; i++) {
                step(i);
                look();
            }
        }

        private void step(int i) {
            int kind = i == 3 ? 0 : random.nextInt(26);
            if (kind == 0 && (i == 3 || random.nextInt(3) == 0)) {
                stepCurve();
            } else if (kind <= 2) {
                stepLoad();
            } else if (kind <= 6) {
                stepSumOrTimes();
            } else if (kind <= 9) {
                stepRead();
            } else if (kind <= 13) {
                stepDecode();
            } else if (kind <= 15) {
                stepKey();
            } else if (kind <= 18) {
                stepSign();
            } else if (kind <= 24) {
                stepCheck();
            } else {
                int r = register();
                both("base(" + r + ")", () -> done(() -> program.base(r)), () -> done(() -> model.base(r)));
            }
        }

        private void stepCurve() {
            boolean small = random.nextInt(3) != 0;
            int[] primes = small ? SMALL_PRIMES : LARGE_PRIMES;
            int p = primes[random.nextInt(primes.length)];
            int a = random.nextInt(p);
            int b = random.nextInt(p);
            for (int i = 0; i < 40 && Field.of(p, a, b) == null && random.nextInt(20) != 0; i++) {
                a = random.nextInt(p);
                b = random.nextInt(p);
            }
            int u = a;
            int v = b;
            String call = "curve(" + p + ", " + a + ", " + b + ")";
            both(call, () -> program.curve(p, u, v), () -> model.curve(p, u, v));
        }

        private void stepLoad() {
            int r = register();
            int p = model.field == null ? 17 : model.field.p;
            int[] point = {random.nextInt(p), random.nextInt(p)};
            if (model.field != null && random.nextInt(4) != 0) {
                point = model.field.points.get(random.nextInt(model.field.points.size())).clone();
            }
            if (random.nextInt(8) == 0) {
                point[random.nextInt(2)] += random.nextBoolean() ? p : -p;
            }
            int x = point[0];
            int y = point[1];
            String call = "load(" + r + ", " + x + ", " + y + ")";
            both(call, () -> done(() -> program.load(r, x, y)), () -> done(() -> model.load(r, x, y)));
        }

        private void stepSumOrTimes() {
            int d = register();
            int a = register();
            int b = register();
            int k = factor();
            if (random.nextBoolean()) {
                String call = "sum(" + d + ", " + a + ", " + b + ")";
                both(call, () -> done(() -> program.sum(d, a, b)), () -> done(() -> model.sum(d, a, b)));
            } else {
                String call = "times(" + d + ", " + k + ", " + a + ")";
                both(call, () -> done(() -> program.times(d, k, a)), () -> done(() -> model.times(d, k, a)));
            }
        }

        private void stepRead() {
            int r = register();
            both("x(" + r + ")", () -> program.x(r), () -> model.coordinate(r, 0));
            both("y(" + r + ")", () -> program.y(r), () -> model.coordinate(r, 1));
            both("code(" + r + ", true)", () -> program.code(r, true), () -> model.code(r, true));
        }

        private void stepDecode() {
            int d = register();
            int[] bytes = someBytes();
            int count = countOf(bytes);
            long together = bent(Field.together(bytes));
            String call = "decode(" + d + ", " + count + ", " + together + ")";
            both(call, () -> done(() -> program.decode(d, count, together)),
                () -> done(() -> model.decode(d, count, together)));
        }

        private void stepKey() {
            int r = register();
            int n = model.field == null ? 5 : model.field.n;
            int d = random.nextInt(6) == 0 ? factor() : 1 + random.nextInt(n - 1);
            both("key(" + r + ", " + d + ")", () -> done(() -> program.key(r, d)), () -> done(() -> model.key(r, d)));
        }

        private void stepSign() {
            long z = message();
            long signature = both("sign(" + z + ")", () -> program.sign(z), () -> model.sign(z));
            if (signature > 0) {
                latestMessage = z;
                latestSignature = signature;
            }
        }

        private void stepCheck() {
            int n = model.field == null ? 5 : model.field.n;
            boolean latest = random.nextInt(3) != 0;
            long z = latest ? latestMessage + n * (long) (random.nextInt(5) - 2) : message();
            int r = latest ? (int) (latestSignature / 65536) : random.nextInt(n + 2) - 1;
            int s = latest ? (int) (latestSignature % 65536) : random.nextInt(n + 2) - 1;
            if (random.nextInt(10) == 0) {
                r += n;
            }
            if (random.nextInt(10) == 0) {
                s -= n;
            }
            check(z, r, s);
        }

        private void check(long z, int r, int s) {
            int q = register();
            int[] bytes = someBytes();
            int count = countOf(bytes);
            long together = bent(Field.together(bytes));
            if (random.nextBoolean()) {
                String call = "verify(" + q + ", " + z + ", " + r + ", " + s + ")";
                both(call, () -> program.verify(q, z, r, s) ? 1 : 0, () -> model.verify(q, z, r, s));
            } else {
                String call = "accepts(" + count + ", " + together + ", " + z + ", " + r + ", " + s + ")";
                both(call, () -> program.accepts(count, together, z, r, s) ? 1 : 0,
                    () -> model.accepts(count, together, z, r, s));
            }
        }

        private int register() {
            return random.nextInt(40) == 0 ? random.nextInt(12) - 4 : random.nextInt(4);
        }

        private int factor() {
            int n = model.field == null ? 5 : model.field.n;
            switch (random.nextInt(5)) {
                case 0: return random.nextInt();
                case 1: return random.nextBoolean() ? Integer.MIN_VALUE : Integer.MAX_VALUE;
                case 2: return n * (random.nextInt(5) - 2) + random.nextInt(3) - 1;
                default: return random.nextInt(2 * n) - n;
            }
        }

        private long message() {
            switch (random.nextInt(4)) {
                case 0: return random.nextLong();
                case 1: return random.nextBoolean() ? Long.MIN_VALUE : Long.MAX_VALUE;
                default: return random.nextInt(200) - 100;
            }
        }

        private int[] someBytes() {
            int[] point = model.registers[random.nextInt(4)];
            if (model.field != null && random.nextInt(3) == 0) {
                point = model.field.points.get(random.nextInt(model.field.points.size()));
            }
            return Field.bytesOf(point, random.nextBoolean());
        }

        private int countOf(int[] bytes) {
            return random.nextInt(10) == 0 ? random.nextInt(9) - 1 : bytes.length;
        }

        private long bent(long together) {
            switch (random.nextInt(12)) {
                case 0: return together ^ 1L << random.nextInt(64);
                case 1: return together + random.nextInt(7) - 3;
                case 2: return -together;
                case 3: return random.nextInt(4 * 65536);
                default: return together;
            }
        }

        private void look() {
            for (int i = 0; i < 4 && wrong == 0; i++) {
                int r = i;
                compare("then code(" + r + ", false)", () -> program.code(r, false), () -> model.code(r, false));
            }
            compare("then draws()", () -> program.draws(), () -> model.draws);
            if (random.nextInt(8) == 0) {
                compare("then order()", () -> program.order(), () -> model.field == null ? 0 : model.field.n);
            }
        }

        private long both(String call, Call ofProgram, Call ofModel) {
            told.append(call).append('\n');
            return compare(call, ofProgram, ofModel);
        }

        private long compare(String call, Call ofProgram, Call ofModel) {
            String want = answer(ofModel, true);
            String got = answer(ofProgram, false);
            if (!got.equals(want)) {
                wrong++;
                System.out.println("run " + number + ":\n" + told + call + " answered " + got + ", the model says " + want);
            }
            return want.startsWith("throws") ? -1 : Long.parseLong(want);
        }

        private static long done(Runnable deed) {
            deed.run();
            return 0;
        }

        private static String answer(Call call, boolean ofModel) {
            try {
                return Long.toString(call.answer());
            } catch (RuntimeException e) {
                if (ofModel) {
                    seen(e.getClass().getSimpleName());
                }
                return "throws." + e.getClass().getSimpleName();
            }
        }
    }
}
