import java.util.Objects;

/**
 * One method for each promise of the document, with answers worked out apart from the program: the
 * ordinary inputs, the edges that the document names, and wrong inputs. No object is used for more
 * than 512 calls.
 */
public final class PromiseTest {
    private static final String STATE = "IllegalStateException";
    private static final String INDEX = "IndexOutOfBoundsException";
    private static final String ARGUMENT = "IllegalArgumentException";
    private static final String ARITHMETIC = "ArithmeticException";
    private static final int[] NO_REGISTERS = {-1, 4, Integer.MIN_VALUE, Integer.MAX_VALUE};

    private static int wrong = 0;
    private static String promise = "";

    private interface Call {
        Object answer();
    }

    private interface Deed {
        void run();
    }

    public static void main(String[] args) {
        promise1NewObject();
        promise2CurveTaken();
        promise2CurveRefused();
        promise2CurveStartsAnew();
        promise3Order();
        promise4Load();
        promise5Base();
        promise6Sum();
        promise7Times();
        promise8And9Coordinates();
        promise10Code();
        promise11Decode();
        promise12Key();
        promise13Sign();
        promise13SignAtTheLastDraw();
        promise14Draws();
        promise15Verify();
        promise16Accepts();
        firstListedExceptionGoesFirst();
        objectsAreApart();
        System.out.println(wrong == 0 ? "all promises hold" : wrong + " answers are not as due");
        if (wrong != 0) {
            System.exit(1);
        }
    }

    private static void promise1NewObject() {
        promise = "1";
        PrimeCurveSigner s = new PrimeCurveSigner();
        due("order", s::order, 0);
        due("draws", s::draws, 0);
        for (int r = 0; r < 4; r++) {
            point(s, r, -1, -1);
        }
        fails("sign", () -> s.sign(1L), STATE);
        s.curve(17, 2, 2);
        fails("sign without key", () -> s.sign(1L), STATE);
    }

    private static void promise2CurveTaken() {
        promise = "2";
        PrimeCurveSigner s = new PrimeCurveSigner();
        int[][] curves = {
            {17, 2, 2, 19}, {29, 4, 20, 37}, {751, 750, 188, 727}, {1021, 0, 10, 1069}, {1021, 32, 22, 967},
            {5, 2, 1, 7}, {5, 3, 2, 5}, {5, 4, 2, 3}, {5, 4, 3, 3}, {7, 0, 4, 3}, {7, 0, 3, 13}, {977, 9, 526, 1031}
        };
        for (int[] c : curves) {
            due("curve " + c[0] + " " + c[1] + " " + c[2], () -> s.curve(c[0], c[1], c[2]), c[3]);
            due("order then", s::order, c[3]);
        }
    }

    private static void promise2CurveRefused() {
        promise = "2";
        PrimeCurveSigner s = new PrimeCurveSigner();
        s.curve(17, 2, 2);
        s.key(1, 3);
        s.base(2);
        long signature = s.sign(4L);
        int[][] refused = {
            // p no prime, or out of bounds, though the pairs counted give a prime
            {9, 2, 1}, {15, 2, 4}, {3, 2, 1}, {1031, 2, 2}, {1031, 4, 2}, {2, 0, 1}, {1, 0, 0}, {0, 0, 0}, {-7, 0, 3},
            {-17, 2, 2}, {4, 1, 1}, {1022, 1, 1}, {1023, 1, 1}, {46349, 1, 1}, {Integer.MAX_VALUE, 1, 1},
            {Integer.MIN_VALUE, 1, 1},
            // a or b out of bounds, though the like modulo p is taken
            {17, 19, 2}, {17, 2, 19}, {17, -15, 2}, {17, 2, -15}, {7, 7, 4}, {7, 0, 11}, {7, -7, 4}, {17, 2, 17},
            {17, Integer.MAX_VALUE, 2}, {17, 2, Integer.MIN_VALUE},
            // 4 a^3 + 27 b^2 is 0, though the points counted give a prime
            {5, 2, 2}, {5, 3, 1}, {7, 1, 5}, {11, 2, 3}, {17, 0, 0}, {5, 0, 0},
            // the order is no prime greater than 2
            {5, 2, 0}, {5, 0, 1}, {5, 1, 1}, {5, 1, 2}, {17, 1, 1}, {17, 1, 2}, {23, 5, 9}, {1021, 1, 1}
        };
        for (int[] c : refused) {
            fails("curve " + c[0] + " " + c[1] + " " + c[2], () -> s.curve(c[0], c[1], c[2]), ARGUMENT);
        }
        due("order after refusals", s::order, 19);
        point(s, 1, 6, 3);
        point(s, 2, 0, 6);
        due("sign after refusals", () -> s.sign(4L), signature);
        s.times(3, 9, 2);
        s.decode(0, 3, 196613L);
        point(s, 0, 5, 1);
    }

    private static void promise2CurveStartsAnew() {
        promise = "2";
        PrimeCurveSigner s = new PrimeCurveSigner();
        s.curve(17, 2, 2);
        for (int r = 0; r < 4; r++) {
            s.key(r, r + 1);
        }
        s.curve(17, 2, 2);
        for (int r = 0; r < 4; r++) {
            point(s, r, -1, -1);
        }
        fails("sign after curve", () -> s.sign(4L), STATE);
        s.load(0, 5, 1);
        s.curve(1021, 0, 10);
        fails("point of an earlier curve", () -> s.load(0, 5, 1), ARGUMENT);
        point(s, 0, -1, -1);
    }

    private static void promise3Order() {
        promise = "3";
        PrimeCurveSigner s = new PrimeCurveSigner();
        due("order", s::order, 0);
        fails("curve", () -> s.curve(17, 0, 0), ARGUMENT);
        due("order after a refusal", s::order, 0);
        s.curve(5, 2, 1);
        due("order", s::order, 7);
        s.curve(1021, 32, 22);
        due("order", s::order, 967);
    }

    private static void promise4Load() {
        promise = "4";
        PrimeCurveSigner s = new PrimeCurveSigner();
        fails("load without curve", () -> s.load(0, 5, 1), STATE);
        s.curve(17, 2, 2);
        int[][] points = {
            {0, 6}, {0, 11}, {3, 1}, {3, 16}, {5, 1}, {5, 16}, {6, 3}, {6, 14}, {7, 6}, {7, 11}, {9, 1}, {9, 16},
            {10, 6}, {10, 11}, {13, 7}, {13, 10}, {16, 4}, {16, 13}
        };
        boolean[] isPoint = new boolean[17 * 17];
        for (int[] xy : points) {
            isPoint[xy[0] * 17 + xy[1]] = true;
        }
        for (int x = -20; x < 40; x++) {
            loadsOfColumn(x, isPoint);
        }
        int[][] wide = {
            {5, 65537}, {65541, 1}, {Integer.MIN_VALUE, 6}, {5, Integer.MAX_VALUE}, {-1, -1}, {5 + 17 * 65536, 1}
        };
        for (int[] xy : wide) {
            fails("load " + xy[0] + " " + xy[1], () -> s.load(2, xy[0], xy[1]), ARGUMENT);
        }
        for (int r : NO_REGISTERS) {
            fails("load into " + r, () -> s.load(r, 5, 1), INDEX);
        }
        s.load(0, 6, 14);
        s.load(3, 16, 4);
        point(s, 0, 6, 14);
        point(s, 1, -1, -1);
        point(s, 3, 16, 4);
    }

    private static void loadsOfColumn(int x, boolean[] isPoint) {
        PrimeCurveSigner s = new PrimeCurveSigner();
        s.curve(17, 2, 2);
        for (int y = -20; y < 40; y++) {
            int v = y;
            s.load(2, 5, 1);
            if (x >= 0 && x < 17 && y >= 0 && y < 17 && isPoint[x * 17 + y]) {
                s.load(2, x, y);
                point(s, 2, x, y);
            } else {
                fails("load " + x + " " + y, () -> s.load(2, x, v), ARGUMENT);
                point(s, 2, 5, 1);
            }
        }
    }

    private static void promise5Base() {
        promise = "5";
        PrimeCurveSigner s = new PrimeCurveSigner();
        fails("base without curve", () -> s.base(0), STATE);
        int[][] curves = {
            {17, 2, 2, 0, 6}, {5, 4, 2, 3, 1}, {5, 4, 3, 2, 2}, {11, 2, 7, 6, 2}, {13, 0, 7, 7, 5},
            {1021, 36, 21, 7, 467}, {1021, 0, 10, 1, 197}, {977, 9, 526, 1, 407}
        };
        for (int[] c : curves) {
            s.curve(c[0], c[1], c[2]);
            s.base(3);
            point(s, 3, c[3], c[4]);
            point(s, 2, -1, -1);
        }
        for (int r : NO_REGISTERS) {
            fails("base into " + r, () -> s.base(r), INDEX);
        }
    }

    /** The multiples 1 .. 18 of the point 5, 1 of the curve 17, 2, 2. */
    private static final int[][] MULTIPLES = {
        {5, 1}, {6, 3}, {10, 6}, {3, 1}, {9, 16}, {16, 13}, {0, 6}, {13, 7}, {7, 6}, {7, 11}, {13, 10}, {0, 11},
        {16, 4}, {9, 1}, {3, 16}, {10, 11}, {6, 14}, {5, 16}
    };

    private static int multipleX(int k) {
        return k % 19 == 0 ? -1 : MULTIPLES[k % 19 - 1][0];
    }

    private static int multipleY(int k) {
        return k % 19 == 0 ? -1 : MULTIPLES[k % 19 - 1][1];
    }

    private static void put(PrimeCurveSigner s, int r, int k) {
        if (k % 19 == 0) {
            s.decode(r, 1, 0L);
        } else {
            s.load(r, multipleX(k), multipleY(k));
        }
    }

    private static void promise6Sum() {
        promise = "6";
        PrimeCurveSigner none = new PrimeCurveSigner();
        fails("sum without curve", () -> none.sum(0, 1, 2), STATE);
        for (int i = 0; i < 19; i++) {
            PrimeCurveSigner s = new PrimeCurveSigner();
            s.curve(17, 2, 2);
            for (int j = 0; j < 19; j++) {
                put(s, 0, i);
                put(s, 1, j);
                s.sum(3, 0, 1);
                point(s, 3, multipleX(i + j), multipleY(i + j));
                point(s, 0, multipleX(i), multipleY(i));
                point(s, 1, multipleX(j), multipleY(j));
                s.sum(0, 0, 1);
                point(s, 0, multipleX(i + j), multipleY(i + j));
                put(s, 0, i);
                s.sum(1, 0, 1);
                point(s, 1, multipleX(i + j), multipleY(i + j));
                s.sum(0, 0, 0);
                point(s, 0, multipleX(2 * i), multipleY(2 * i));
            }
        }
        PrimeCurveSigner s = new PrimeCurveSigner();
        s.curve(1021, 32, 22);
        s.load(0, 1020, 855);
        s.sum(1, 0, 0);
        point(s, 1, 183, 210);
        for (int r : NO_REGISTERS) {
            fails("sum into " + r, () -> s.sum(r, 0, 1), INDEX);
            fails("sum of " + r, () -> s.sum(1, r, 0), INDEX);
            fails("sum with " + r, () -> s.sum(1, 0, r), INDEX);
        }
        point(s, 1, 183, 210);
    }

    private static void promise7Times() {
        promise = "7";
        PrimeCurveSigner s = new PrimeCurveSigner();
        fails("times without curve", () -> s.times(0, 1, 2), STATE);
        s.curve(17, 2, 2);
        s.load(0, 5, 1);
        int[] factors = {
            0, 1, 2, 3, 18, 19, 20, 37, 38, 39, 57, -1, -2, -18, -19, -20, -38, 1000000, -1000000,
            Integer.MAX_VALUE, Integer.MIN_VALUE, Integer.MIN_VALUE + 1
        };
        for (int k : factors) {
            int rest = (int) (((long) k % 19 + 19) % 19);
            s.times(1, k, 0);
            point(s, 1, multipleX(rest), multipleY(rest));
            s.times(3, k, 2);
            point(s, 3, -1, -1);
        }
        for (int k = 0; k < 19; k++) {
            s.load(1, 10, 6);
            s.times(1, k, 1);
            point(s, 1, multipleX(3 * k), multipleY(3 * k));
        }
        s.curve(1021, 0, 10);
        s.base(0);
        s.times(1, 3, 0);
        point(s, 1, 25, 848);
        s.times(1, 1067, 0);
        point(s, 1, 996, 798);
        s.times(1, 1068, 0);
        point(s, 1, 1, 824);
        for (int r : NO_REGISTERS) {
            fails("times into " + r, () -> s.times(r, 5, 0), INDEX);
            fails("times of " + r, () -> s.times(1, 5, r), INDEX);
        }
        point(s, 1, 1, 824);
    }

    private static void promise8And9Coordinates() {
        promise = "8, 9";
        PrimeCurveSigner s = new PrimeCurveSigner();
        registersOfCoordinates(s);
        s.curve(17, 2, 2);
        registersOfCoordinates(s);
        point(s, 1, -1, -1);
        s.load(0, 0, 11);
        s.load(1, 16, 4);
        s.load(2, 10, 6);
        s.load(3, 7, 11);
        point(s, 0, 0, 11);
        point(s, 1, 16, 4);
        point(s, 2, 10, 6);
        point(s, 3, 7, 11);
        s.curve(1021, 32, 22);
        s.load(2, 1020, 855);
        point(s, 2, 1020, 855);
    }

    private static void registersOfCoordinates(PrimeCurveSigner s) {
        for (int r : NO_REGISTERS) {
            fails("x " + r, () -> s.x(r), INDEX);
            fails("y " + r, () -> s.y(r), INDEX);
            fails("code " + r, () -> s.code(r, true), INDEX);
            fails("code " + r, () -> s.code(r, false), INDEX);
        }
    }

    private static void promise10Code() {
        promise = "10";
        PrimeCurveSigner s = new PrimeCurveSigner();
        due("short code of INFINITY", () -> s.code(3, true), 0L);
        due("code of INFINITY", () -> s.code(3, false), 0L);
        registersOfCoordinates(s);
        s.curve(17, 2, 2);
        registersOfCoordinates(s);
        due("code of INFINITY", () -> s.code(0, false), 0L);
        s.load(0, 0, 6);
        due("short code", () -> s.code(0, true), 0x020000L);
        due("code", () -> s.code(0, false), 0x0400000006L);
        s.load(1, 9, 1);
        due("short code", () -> s.code(1, true), 0x030009L);
        due("code", () -> s.code(1, false), 0x0400090001L);
        s.curve(1021, 32, 22);
        s.load(2, 1020, 855);
        due("short code", () -> s.code(2, true), 0x0303fcL);
        due("code", () -> s.code(2, false), 0x0403fc0357L);
        point(s, 2, 1020, 855);
    }

    private static void promise11Decode() {
        promise = "11";
        PrimeCurveSigner s = new PrimeCurveSigner();
        fails("decode without curve", () -> s.decode(0, 1, 0L), STATE);
        s.curve(17, 2, 2);
        decodes(s, 1, 0L, -1, -1);
        for (int[] xy : MULTIPLES) {
            decodes(s, 3, (2 + xy[1] % 2) * 65536L + xy[0], xy[0], xy[1]);
            decodes(s, 5, 0x0400000000L + xy[0] * 65536L + xy[1], xy[0], xy[1]);
        }
        long[] noShort = {
            0L, -1L, 5L, 0x010005L, 0x000005L, 0x040005L, 0x050005L, 0x020001L, 0x030001L, 0x020011L, 0x020016L,
            0x0200ffL, 0x02ffffL, 0x030105L, 0x820005L, 0x1020005L, 0x100020005L, 0x7fff000000020005L,
            Long.MIN_VALUE + 0x020005L, 0x020005L - (1L << 24), Long.MIN_VALUE, Long.MAX_VALUE, 0x0400050001L
        };
        refusesAll(3, noShort);
        long[] noPlain = {
            0L, -1L, 0x0400050002L, 0x0400050012L, 0x0400160001L, 0x0400000000L, 0x0300050001L, 0x0200050001L,
            0x0500050001L, 0x0000050001L, 0x8400050001L, 0x010400050001L, 0x0401050001L, 0x0400050101L,
            0x0400ffffffL, 0x0400050001L - (1L << 40), 0x0400050001L + Long.MIN_VALUE, Long.MIN_VALUE,
            Long.MAX_VALUE, 0x030005L, 0x040005ffffL
        };
        refusesAll(5, noPlain);
        refusesAll(1, new long[] {1L, 2L, 4L, -1L, 256L, 1L << 32, Long.MIN_VALUE, 0x030005L, 0x0400050001L});
        for (int bytes : new int[] {0, 2, 4, 6, 7, 8, -1, -3, -5, 259, 261, Integer.MIN_VALUE, Integer.MAX_VALUE}) {
            refusesAll(bytes, new long[] {0L, 0x030005L, 0x0400050001L});
        }
        for (int r : NO_REGISTERS) {
            fails("decode into " + r, () -> s.decode(r, 1, 0L), INDEX);
        }
        s.curve(1021, 32, 22);
        decodes(s, 3, 0x0303fcL, 1020, 855);
        decodes(s, 3, 0x0203fcL, 1020, 166);
        decodes(s, 5, 0x0403fc0357L, 1020, 855);
    }

    private static void decodes(PrimeCurveSigner s, int bytes, long number, int x, int y) {
        s.base(1);
        s.decode(1, bytes, number);
        point(s, 1, x, y);
    }

    private static void refusesAll(int bytes, long[] numbers) {
        PrimeCurveSigner s = new PrimeCurveSigner();
        s.curve(17, 2, 2);
        for (long number : numbers) {
            s.load(1, 7, 6);
            fails("decode " + bytes + " " + number, () -> s.decode(1, bytes, number), ARGUMENT);
            point(s, 1, 7, 6);
            due("accepts", () -> s.accepts(bytes, number, 1L, 1, 1), false);
        }
    }

    private static void promise12Key() {
        promise = "12";
        PrimeCurveSigner s = new PrimeCurveSigner();
        fails("key without curve", () -> s.key(0, 1), STATE);
        s.curve(29, 4, 20);
        for (int d : new int[] {0, -1, 37, 38, Integer.MIN_VALUE, Integer.MAX_VALUE}) {
            fails("key " + d, () -> s.key(0, d), ARGUMENT);
        }
        point(s, 0, -1, -1);
        fails("sign when all keys were refused", () -> s.sign(77L), STATE);
        s.key(2, 20);
        point(s, 2, 16, 27);
        due("sign", () -> s.sign(77L), 1245189L);
        for (int d : new int[] {0, 37}) {
            fails("key " + d, () -> s.key(2, d), ARGUMENT);
        }
        for (int r : NO_REGISTERS) {
            fails("key into " + r, () -> s.key(r, 5), INDEX);
        }
        point(s, 2, 16, 27);
        due("sign", () -> s.sign(-77L), 1048599L);
        s.key(0, 1);
        point(s, 0, 0, 7);
        s.key(0, 36);
        point(s, 0, 0, 22);
        s.base(0);
        s.key(2, 20);
        s.base(2);
        due("sign does not look at registers", () -> s.sign(77L), 1245189L);
    }

    private static void promise13Sign() {
        promise = "13";
        PrimeCurveSigner s = new PrimeCurveSigner();
        fails("sign without curve", () -> s.sign(1L), STATE);
        signs(s, new int[] {29, 4, 20, 20}, -77L, 1048599L, 4);
        signs(s, new int[] {29, 4, 20, 20}, -77L + 37L * 1000000007L, 1048599L, 4);
        // The draws before the last: k out of bounds, k out of bounds, x is n.
        signs(s, new int[] {11, 2, 7, 1}, 5L, 196611L, 4);
        // The draws before the last: k out of bounds, s is 0, s is 0, x is 0, x is 0.
        signs(s, new int[] {5, 2, 1, 1}, 6L, 196612L, 6);
        signs(s, new int[] {5, 2, 1, 1}, -1L, 196612L, 6);
        signs(s, new int[] {11, 2, 7, 4}, 4L, 196614L, 18);
        signs(s, new int[] {1021, 0, 10, 1068}, Long.MAX_VALUE, 14877474L, 2);
        signs(s, new int[] {1021, 0, 10, 1068}, Long.MIN_VALUE, 17236069L, 3);
        signs(s, new int[] {1021, 32, 22, 500}, -1L, 39780705L, 1);
        signs(s, new int[] {751, 750, 188, 300}, 123456789012345L, 34865577L, 1);
        s.curve(5, 4, 3);
        s.key(0, 1);
        fails("sign", () -> s.sign(1L), ARITHMETIC);
        fails("sign", () -> s.sign(-2L), ARITHMETIC);
        due("draws", s::draws, 1);
        due("sign", () -> s.sign(0L), 131074L);
        due("sign", () -> s.sign(2L), 131074L);
        point(s, 0, 2, 2);
        s.curve(5, 4, 2);
        s.key(0, 2);
        for (long z = -4; z < 4; z++) {
            long message = z;
            fails("sign with x always n", () -> s.sign(message), ARITHMETIC);
        }
    }

    private static void signs(PrimeCurveSigner s, int[] curveAndKey, long z, long signature, int draws) {
        s.curve(curveAndKey[0], curveAndKey[1], curveAndKey[2]);
        fails("sign without key", () -> s.sign(z), STATE);
        s.key(0, curveAndKey[3]);
        due("sign " + z, () -> s.sign(z), signature);
        due("draws", s::draws, draws);
        due("sign again", () -> s.sign(z), signature);
        due("verify", () -> s.verify(0, z, (int) (signature / 65536), (int) (signature % 65536)), true);
    }

    /** Of all keys and messages only a few come as far as the 24th draw. */
    private static void promise13SignAtTheLastDraw() {
        promise = "13";
        PrimeCurveSigner s = new PrimeCurveSigner();
        signs(s, new int[] {977, 9, 526, 15}, 526L, 19005871L, 24);
        signs(s, new int[] {977, 9, 526, 15}, 526L - 1031L, 19005871L, 24);
        s.curve(571, 377, 233);
        s.key(1, 411);
        // A 25th draw would give 320, 32.
        fails("sign", () -> s.sign(106L), ARITHMETIC);
        due("draws", s::draws, 24);
    }

    private static void promise14Draws() {
        promise = "14";
        PrimeCurveSigner s = new PrimeCurveSigner();
        due("draws", s::draws, 0);
        s.curve(5, 4, 3);
        s.key(0, 1);
        due("draws", s::draws, 0);
        fails("sign", () -> s.sign(1L), ARITHMETIC);
        due("draws after a failure alone", s::draws, 0);
        s.curve(29, 4, 20);
        s.key(0, 20);
        s.sign(-77L);
        due("draws", s::draws, 4);
        s.sign(77L);
        due("draws", s::draws, 2);
        s.sign(-77L);
        s.key(1, 3);
        due("draws after key", s::draws, 4);
        s.curve(5, 4, 3);
        due("draws after curve", s::draws, 4);
        fails("sign", () -> s.sign(1L), STATE);
        s.key(0, 1);
        fails("sign", () -> s.sign(1L), ARITHMETIC);
        due("draws after a failure", s::draws, 4);
        s.sign(0L);
        due("draws", s::draws, 1);
    }

    private static void promise15Verify() {
        promise = "15";
        PrimeCurveSigner s = new PrimeCurveSigner();
        fails("verify without curve", () -> s.verify(0, 1L, 1, 1), STATE);
        s.curve(11, 2, 7);
        s.base(0);
        s.times(0, 3, 0);
        // x of the points is 6, 7 or 10, so r is 6, 0 or 3; more than one s fits.
        fitting(0L, new int[][] {{3, 1}, {3, 6}, {6, 3}, {6, 4}});
        fitting(1L, new int[][] {{3, 2}, {3, 5}, {6, 2}, {6, 5}});
        fitting(2L, new int[][] {{3, 2}, {3, 5}, {6, 1}, {6, 6}});
        fitting(-5L, new int[][] {{3, 2}, {3, 5}, {6, 1}, {6, 6}});
        fitting(Long.MIN_VALUE, new int[][] {{3, 3}, {3, 4}, {6, 3}, {6, 4}});
        due("INFINITY does not fit", () -> s.verify(1, 1L, 3, 2), false);
        due("INFINITY does not fit", () -> s.verify(1, 2L, 3, 2), false);
        int[][] wide = {
            {10, 2}, {3 + 7 * 65536, 2}, {3, Integer.MIN_VALUE}, {Integer.MIN_VALUE, 2}, {Integer.MAX_VALUE, 2},
            {3, Integer.MAX_VALUE}, {-4, 2}, {3, -5}, {3, 9}
        };
        for (int[] rs : wide) {
            due("verify " + rs[0] + " " + rs[1], () -> s.verify(0, 1L, rs[0], rs[1]), false);
        }
        for (int r : NO_REGISTERS) {
            fails("verify " + r, () -> s.verify(r, 1L, 3, 2), INDEX);
            fails("verify " + r, () -> s.verify(r, 1L, 0, 0), INDEX);
        }
        s.curve(17, 2, 2);
        s.base(2);
        s.times(2, 3, 2);
        due("the sum is INFINITY", () -> s.verify(2, 16L, 1, 1), false);
        // 2 times BASE is 9, 1: without the rule about INFINITY it would fit 9, 1 of the message 2.
        due("INFINITY does not fit", () -> s.verify(3, 2L, 9, 1), false);
        due("INFINITY does not fit", () -> s.accepts(1, 0L, 2L, 9, 1), false);
    }

    /** On the curve 11, 2, 7 the point that is 3 times BASE fits these pairs and no other. */
    private static void fitting(long z, int[][] pairs) {
        boolean[] fits = new boolean[400];
        for (int[] rs : pairs) {
            fits[(rs[0] + 10) * 20 + rs[1] + 10] = true;
        }
        for (int r = -10; r < 10; r++) {
            fittingWith(z, r, fits);
        }
    }

    private static void fittingWith(long z, int r, boolean[] fits) {
        PrimeCurveSigner s = new PrimeCurveSigner();
        s.curve(11, 2, 7);
        s.base(0);
        s.times(0, 3, 0);
        long code = s.code(0, true);
        for (int t = -10; t < 10; t++) {
            int v = t;
            boolean fit = fits[(r + 10) * 20 + t + 10];
            due("verify " + z + " " + r + " " + t, () -> s.verify(0, z, r, v), fit);
            due("accepts " + z + " " + r + " " + t, () -> s.accepts(3, code, z, r, v), fit);
        }
    }

    private static void promise16Accepts() {
        promise = "16";
        PrimeCurveSigner s = new PrimeCurveSigner();
        fails("accepts without curve", () -> s.accepts(1, 0L, 1L, 1, 1), STATE);
        fails("accepts without curve", () -> s.accepts(9, -1L, 1L, 0, 0), STATE);
        s.curve(29, 4, 20);
        // The key 20 has the point 16, 27 and signs 77 with 19, 5; its other point 16, 2 does not fit.
        due("accepts short", () -> s.accepts(3, 0x030010L, 77L, 19, 5), true);
        due("accepts plain", () -> s.accepts(5, 0x040010001bL, 77L, 19, 5), true);
        due("accepts 77 + n", () -> s.accepts(3, 0x030010L, 77L + 37L, 19, 5), true);
        due("accepts 77 - 3 n", () -> s.accepts(5, 0x040010001bL, 77L - 111L, 19, 5), true);
        due("other message", () -> s.accepts(3, 0x030010L, 78L, 19, 5), false);
        due("other point", () -> s.accepts(3, 0x020010L, 77L, 19, 5), false);
        due("other point", () -> s.accepts(5, 0x0400100002L, 77L, 19, 5), false);
        due("other r", () -> s.accepts(3, 0x030010L, 77L, 20, 5), false);
        due("other s", () -> s.accepts(3, 0x030010L, 77L, 19, 6), false);
        due("r + n", () -> s.accepts(3, 0x030010L, 77L, 56, 5), false);
        due("s + n", () -> s.accepts(3, 0x030010L, 77L, 19, 42), false);
        due("INFINITY", () -> s.accepts(1, 0L, 77L, 19, 5), false);
        due("not well-formed", () -> s.accepts(1, 1L, 77L, 19, 5), false);
        due("not well-formed", () -> s.accepts(5, 0x030010L, 77L, 19, 5), false);
        due("not well-formed", () -> s.accepts(3, 0x040010001bL, 77L, 19, 5), false);
        due("not well-formed", () -> s.accepts(3, 0x03002dL, 77L, 19, 5), false);
        due("not well-formed", () -> s.accepts(5, 0x0400100038L, 77L, 19, 5), false);
        due("not well-formed", () -> s.accepts(4, 0x030010L, 77L, 19, 5), false);
        for (int r = 0; r < 4; r++) {
            point(s, r, -1, -1);
        }
        due("draws", s::draws, 0);
    }

    private static void firstListedExceptionGoesFirst() {
        promise = "4, 5, 6, 7, 11, 12, 15 (which exception goes first)";
        PrimeCurveSigner s = new PrimeCurveSigner();
        fails("load", () -> s.load(9, -1, -1), STATE);
        fails("base", () -> s.base(9), STATE);
        fails("sum", () -> s.sum(9, 9, 9), STATE);
        fails("times", () -> s.times(9, 1, 9), STATE);
        fails("decode", () -> s.decode(9, 9, 9L), STATE);
        fails("key", () -> s.key(9, 0), STATE);
        fails("verify", () -> s.verify(9, 1L, 1, 1), STATE);
        s.curve(17, 2, 2);
        fails("load", () -> s.load(9, -1, -1), INDEX);
        fails("decode", () -> s.decode(9, 9, 9L), INDEX);
        fails("key", () -> s.key(9, 0), INDEX);
    }

    private static void objectsAreApart() {
        promise = "1 (two objects)";
        PrimeCurveSigner one = new PrimeCurveSigner();
        PrimeCurveSigner two = new PrimeCurveSigner();
        one.curve(29, 4, 20);
        one.key(0, 20);
        one.sign(77L);
        due("order", two::order, 0);
        due("draws", two::draws, 0);
        point(two, 0, -1, -1);
        two.curve(17, 2, 2);
        fails("sign", () -> two.sign(77L), STATE);
        due("order", one::order, 37);
        point(one, 0, 16, 27);
    }

    private static void point(PrimeCurveSigner s, int r, int x, int y) {
        due("x " + r, () -> s.x(r), x);
        due("y " + r, () -> s.y(r), y);
    }

    private static void due(String call, Call made, Object want) {
        Object got;
        try {
            got = made.answer();
        } catch (RuntimeException e) {
            got = e.getClass().getSimpleName();
        }
        report(call, got, want);
    }

    private static void fails(String call, Deed made, String want) {
        String got = "no exception";
        try {
            made.run();
        } catch (RuntimeException e) {
            got = e.getClass().getSimpleName();
        }
        report(call, got, want);
    }

    private static void report(String call, Object got, Object want) {
        if (!Objects.equals(got, want)) {
            wrong++;
            System.out.println("promise " + promise + ": " + call + " answered " + got + ", due is " + want);
        }
    }
}
