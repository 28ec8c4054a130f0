/**
 * The sections "What it is" and "Terms", as far as curves, points, sums and multiples go: each sentence,
 * or part of one, that names a boundary has a test of its own. How rows are read stands in Sentences.
 */
public final class TermsOfCurvesTest {
    private static final String WHAT = "What it is";
    private static final String TERMS = "Terms";
    /** The multiples 1 .. 18 of the point 5, 1 of the curve 17, 2, 2, whose order is 19. */
    private static final String[] MULTIPLES = {
        "5 1", "6 3", "10 6", "3 1", "9 16", "16 13", "0 6", "13 7", "7 6",
        "7 11", "13 10", "0 11", "16 4", "9 1", "3 16", "10 11", "6 14", "5 16"
    };

    private TermsOfCurvesTest() {
    }

    public static void main(String[] args) {
        Sentences s = new Sentences();
        fiveHundredAndTwelveCalls(s);
        primeFromFive(s);
        primeTo1021(s);
        primeAlone(s);
        numberA(s);
        numberB(s);
        notZero(s);
        pairsInBounds(s);
        pairsOnTheCurve(s);
        oneMorePoint(s);
        orderIsPrime(s);
        noPointHasYZero(s);
        everyPointGivesAll(s);
        baseHasLeastX(s);
        baseHasLesserY(s);
        sumWithInfinity(s);
        sumOfOpposites(s);
        sumOfOthers(s);
        sumOfTheSame(s);
        sumModuloP(s);
        timesFromZeroUp(s);
        timesBelowZero(s);
        timesInfinity(s);
        timesModuloN(s);
        fourRegisters(s);
        s.finish();
    }

    private static void fiveHundredAndTwelveCalls(Sentences s) {
        s.holds(WHAT, "An object is used for at most 512 calls after it has been made", """
            512 * order -> 0

            511 * curve 1021 0 10 -> 1069
            order -> 1069

            curve 1021 0 10 -> 1069
            511 * curve 1021 32 22 -> 967

            curve 29 4 20 -> 37
            509 * curve 1021 1018 2 -> IllegalArgument
            base 0
            x 0 -> 0

            511 * load 0 5 1 -> IllegalState
            curve 17 2 2 -> 19

            curve 17 2 2 -> 19
            509 * load 3 6 14
            point 3 -> 6,14

            curve 17 2 2 -> 19
            509 * base 3
            point 3 -> 0,6

            curve 1021 0 10 -> 1069
            base 0
            508 * sum 1 1 0    # 508 times BASE
            point 1 -> 473,295

            curve 1021 0 10 -> 1069
            base 0
            508 * times 0 2 0  # 2^508 times BASE
            point 0 -> 942,716

            curve 1021 615 73 -> 1069
            load 0 1020 645
            510 * code 0 plain -> 0x0403fc0285

            curve 1021 615 73 -> 1069
            509 * decode 2 3 0x0303fc
            point 2 -> 1020,645

            curve 29 4 20 -> 37
            509 * key 1 20
            point 1 -> 16,27

            curve 29 4 20 -> 37
            key 1 20
            509 * sign 77 -> 1245189
            draws -> 2

            curve 5 4 3 -> 3
            key 0 1
            509 * sign 1 -> Arithmetic
            sign 0 -> 131074

            curve 29 4 20 -> 37
            key 1 20
            510 * verify 1 77 19 5 -> true

            curve 29 4 20 -> 37
            511 * accepts 3 0x030010 77 19 5 -> true
            """);
    }

    private static void primeFromFive(Sentences s) {
        // Behind # stands the number of points, counted as if this p would do.
        s.holds(TERMS, "A CURVE is a prime p from 5", """
            curve 4 3 3 -> IllegalArgument     # 3
            curve 3 2 1 -> IllegalArgument     # 7
            curve 2 0 1 -> IllegalArgument     # 3
            curve 2 1 1 -> IllegalArgument     # 3
            curve 1 0 0 -> IllegalArgument
            curve 0 0 0 -> IllegalArgument
            curve -1 0 0 -> IllegalArgument
            curve -5 2 1 -> IllegalArgument
            curve -17 2 2 -> IllegalArgument
            curve MIN 0 0 -> IllegalArgument
            order -> 0
            curve 5 2 1 -> 7
            curve 5 4 2 -> 3
            curve 7 0 3 -> 13
            """);
    }

    private static void primeTo1021(Sentences s) {
        s.holds(TERMS, "from 5 to 1021", """
            curve 1019 254 182 -> 1009
            curve 1021 0 10 -> 1069
            curve 1021 1020 8 -> 1039
            curve 1022 1000 999 -> IllegalArgument   # 877
            curve 1023 645 816 -> IllegalArgument    # 739
            curve 1031 1 17 -> IllegalArgument       # 1061
            curve 1031 1 54 -> IllegalArgument       # 1063
            curve 1033 0 5 -> IllegalArgument        # 1087
            curve 1049 1 9 -> IllegalArgument        # 1049
            curve 65537 2 2 -> IllegalArgument
            curve 65553 2 2 -> IllegalArgument       # 65536 + 17
            curve MAX 2 2 -> IllegalArgument
            order -> 1039
            """);
    }

    private static void primeAlone(Sentences s) {
        s.holds(TERMS, "A CURVE is a prime p", """
            curve 6 3 5 -> IllegalArgument         # 7
            curve 8 6 3 -> IllegalArgument         # 5
            curve 9 5 1 -> IllegalArgument         # 19
            curve 15 7 11 -> IllegalArgument       # 19
            curve 21 17 7 -> IllegalArgument       # 43
            curve 25 12 16 -> IllegalArgument      # 31
            curve 35 29 17 -> IllegalArgument      # 11
            curve 49 14 40 -> IllegalArgument      # 43
            curve 121 107 120 -> IllegalArgument   # 67
            curve 169 3 71 -> IllegalArgument      # 157
            curve 961 508 485 -> IllegalArgument   # 1117, and 961 is 31 * 31
            curve 989 319 395 -> IllegalArgument   # 1103, and 989 is 23 * 43
            curve 1007 264 111 -> IllegalArgument  # 659, and 1007 is 19 * 53
            curve 1017 456 721 -> IllegalArgument  # 733
            curve 1020 852 225 -> IllegalArgument  # 271
            order -> 0
            """);
    }

    private static void numberA(Sentences s) {
        s.holds(TERMS, "numbers a, b from 0 to p - 1: a", """
            curve 7 0 4 -> 3
            curve 7 7 4 -> IllegalArgument
            curve 7 -7 4 -> IllegalArgument
            curve 5 4 2 -> 3
            curve 5 -1 2 -> IllegalArgument
            curve 5 9 2 -> IllegalArgument
            curve 1021 0 10 -> 1069
            curve 1021 1021 10 -> IllegalArgument
            curve 1021 1020 8 -> 1039
            curve 1021 -1 8 -> IllegalArgument
            curve 17 8 1 -> 19
            curve 17 MAX 1 -> IllegalArgument  # MAX and MIN are 8 modulo 17
            curve 17 MIN 1 -> IllegalArgument
            order -> 19
            """);
    }

    private static void numberB(Sentences s) {
        s.holds(TERMS, "numbers a, b from 0 to p - 1: b", """
            curve 7 1 1 -> 5
            curve 7 1 8 -> IllegalArgument
            curve 7 1 -6 -> IllegalArgument
            curve 7 1 6 -> 11
            curve 7 1 -1 -> IllegalArgument
            curve 7 1 13 -> IllegalArgument
            curve 7 1 7 -> IllegalArgument
            curve 7 1 0 -> IllegalArgument     # 8: with b = 0 every order is even, for 0, 0 is a point
            curve 1021 7 1020 -> 1019
            curve 1021 7 -1 -> IllegalArgument
            curve 1021 7 1 -> 1019
            curve 1021 7 1022 -> IllegalArgument
            curve 17 6 8 -> 13
            curve 17 6 MAX -> IllegalArgument  # MAX and MIN are 8 modulo 17
            curve 17 6 MIN -> IllegalArgument
            order -> 13
            """);
    }

    private static void notZero(Sentences s) {
        s.holds(TERMS, "for which 4 * a^3 + 27 * b^2 is not 0 modulo p", """
            curve 5 2 2 -> IllegalArgument         # 7 points, were it a curve
            curve 5 3 1 -> IllegalArgument         # 5
            curve 7 1 5 -> IllegalArgument         # 7
            curve 11 2 3 -> IllegalArgument        # 13
            curve 17 3 8 -> IllegalArgument        # 19
            curve 1021 1 290 -> IllegalArgument    # 1021
            curve 1021 1018 2 -> IllegalArgument   # 1021, and 4 * a^3 is no int
            curve 1019 1018 596 -> IllegalArgument # 1021, the same
            curve 5 0 0 -> IllegalArgument
            curve 1021 0 0 -> IllegalArgument
            order -> 0
            curve 5 3 2 -> 5                       # it is 1 modulo p
            curve 5 4 2 -> 3                       # it is p - 1 modulo p
            curve 1021 10 123 -> 1031              # it is p - 1 modulo p
            curve 1013 1011 319 -> 997             # a wrapped int would be 0 modulo p
            curve 1021 1014 494 -> 1013            # the same
            """);
    }

    private static void pairsInBounds(Sentences s) {
        s.holds(TERMS, "Its POINTS are the pairs x, y of numbers from 0 to p - 1", """
            curve 17 2 2 -> 19
            load 1 0 6
            load 1 17 6 -> IllegalArgument
            load 1 -17 6 -> IllegalArgument
            load 1 16 4
            load 1 -1 4 -> IllegalArgument
            load 1 33 4 -> IllegalArgument
            load 1 5 1
            load 1 5 18 -> IllegalArgument
            load 1 5 -16 -> IllegalArgument
            load 1 5 16
            load 1 5 -1 -> IllegalArgument
            load 1 5 33 -> IllegalArgument
            load 1 1114117 16 -> IllegalArgument  # 17 * 65536 + 5
            load 1 5 1114128 -> IllegalArgument   # 17 * 65536 + 16
            load 1 MAX 4 -> IllegalArgument
            load 1 MIN 4 -> IllegalArgument
            load 1 5 MAX -> IllegalArgument
            load 1 5 MIN -> IllegalArgument
            load 1 -1 -1 -> IllegalArgument
            point 1 -> 5,16

            curve 1021 615 73 -> 1069
            load 0 1020 376
            load 1 0 965
            load 2 11 1020
            load 3 11 1
            load 0 1021 56 -> IllegalArgument
            load 0 -1 376 -> IllegalArgument
            load 0 11 1022 -> IllegalArgument
            load 0 11 -1 -> IllegalArgument
            registers -> 1020,376 0,965 11,1020 11,1
            """);
    }

    private static void pairsOnTheCurve(Sentences s) {
        String curve = "curve 17 2 2 -> 19\n";
        s.holds(TERMS, "for which y^2 = x^3 + a * x + b modulo p",
            curve + column(17, 0, 6), curve + column(17, 1, -1), curve + column(17, 2, -1), curve + column(17, 3, 1),
            curve + column(17, 5, 1), curve + column(17, 15, -1), curve + column(17, 16, 4), """
            curve 1021 615 73 -> 1069
            load 0 1020 645
            load 0 1020 644 -> IllegalArgument
            load 0 1020 646 -> IllegalArgument
            load 0 1019 645 -> IllegalArgument
            load 0 257 1 -> IllegalArgument
            point 0 -> 1020,645
            """);
    }

    private static void oneMorePoint(Sentences s) {
        String curve = "curve 5 4 2 -> 3\n";
        s.holds(TERMS, "and one more, INFINITY.",
            curve + column(5, 0, -1) + column(5, 1, -1) + column(5, 2, -1) + column(5, 3, 1) + column(5, 4, -1), """
            curve 5 4 2 -> 3
            base 0
            sum 1 0 0
            sum 2 1 0
            registers -> 3,1 3,4 INFINITY INFINITY
            """);
    }

    /** Loads every pair of one x; only y and p - y make points, and none does if y is -1. */
    private static String column(int p, int x, int y) {
        StringBuilder run = new StringBuilder();
        for (int v = 0; v < p; v++) {
            boolean isPoint = y != -1 && (v == y || v == p - y);
            run.append("load 0 " + x + " " + v + (isPoint ? "\n" : " -> IllegalArgument\n"));
        }
        return run.toString();
    }

    private static void orderIsPrime(Sentences s) {
        s.holds(TERMS, "only curves whose order is a prime greater than 2 are taken", """
            curve 5 2 0 -> IllegalArgument       # 2
            curve 5 4 3 -> 3
            curve 5 1 2 -> IllegalArgument       # 4
            curve 5 3 2 -> 5
            curve 5 0 1 -> IllegalArgument       # 6
            curve 5 2 4 -> 7
            curve 5 4 1 -> IllegalArgument       # 8
            curve 5 1 1 -> IllegalArgument       # 9
            curve 5 3 0 -> IllegalArgument       # 10
            order -> 7
            curve 1021 788 774 -> IllegalArgument  # 959 = 7 * 137
            curve 1021 184 661 -> IllegalArgument  # 961 = 31 * 31
            curve 1021 706 43 -> 967
            curve 1021 46 386 -> 1021
            curve 1021 603 62 -> IllegalArgument   # 1024 = 2^10
            curve 1021 99 36 -> IllegalArgument    # 1027 = 13 * 79
            curve 1021 588 187 -> 1069
            curve 1021 943 437 -> IllegalArgument  # 1073 = 29 * 37
            curve 1021 8 145 -> IllegalArgument    # 1081 = 23 * 47
            curve 1021 942 35 -> IllegalArgument   # 1085
            order -> 1069
            """);
    }

    private static void noPointHasYZero(Sentences s) {
        s.holds(TERMS, "So no point has y = 0",
            "curve 5 4 2 -> 3\n" + Sentences.rows("load 0 I 0 -> IllegalArgument", 0, 4),
            "curve 17 2 2 -> 19\n" + Sentences.rows("load 0 I 0 -> IllegalArgument", 0, 16),
            "curve 257 5 30 -> 271\n" + Sentences.rows("load 0 I 0 -> IllegalArgument", 0, 256), """
            curve 17 2 2 -> 19
            decode 0 5 0x0400000000 -> IllegalArgument
            decode 0 5 0x0400050000 -> IllegalArgument
            decode 0 5 0x0400100000 -> IllegalArgument
            point 0 -> INFINITY
            """);
    }

    private static void everyPointGivesAll(Sentences s) {
        String[] runs = new String[MULTIPLES.length];
        for (int j = 1; j <= runs.length; j++) {
            StringBuilder run = new StringBuilder("curve 17 2 2 -> 19\nload 0 " + MULTIPLES[j - 1] + "\n");
            for (int k = 1; k <= 20; k++) {
                run.append("times 1 " + k + " 0\npoint 1 -> " + multiple(j * k) + "\n");
                run.append("sum 2 2 0\npoint 2 -> " + multiple(j * k) + "\n");
            }
            runs[j - 1] = run.toString();
        }
        s.holds(TERMS, "every point but INFINITY gives all points by its multiples", runs);
    }

    private static String multiple(int k) {
        return k % 19 == 0 ? "INFINITY" : MULTIPLES[k % 19 - 1].replace(' ', ',');
    }

    private static void baseHasLeastX(Sentences s) {
        s.holds(TERMS, "The BASE is the point with the least x", """
            curve 17 2 2 -> 19
            base 0
            point 0 -> 0,6
            curve 1019 254 182 -> 1009
            base 0
            point 0 -> 1,496
            curve 5 4 2 -> 3
            base 0
            point 0 -> 3,1
            curve 17 16 5 -> 17
            base 0
            point 0 -> 7,1
            curve 751 75 704 -> 719
            base 0
            point 0 -> 9,317
            curve 1009 330 520 -> 1031
            base 0
            point 0 -> 10,28
            """);
    }

    private static void baseHasLesserY(Sentences s) {
        s.holds(TERMS, "of the two the one with the lesser y", """
            curve 17 2 2 -> 19
            base 0                # the other one is 0, 11, whose y is odd
            point 0 -> 0,6
            curve 1021 719 767 -> 1009
            base 0                # the other one is 0, 968, whose y is even
            point 0 -> 0,53
            curve 17 7 13 -> 13
            base 0                # the other one is 0, 9
            point 0 -> 0,8
            curve 5 4 3 -> 3
            base 0                # the other one is 2, 3
            point 0 -> 2,2
            curve 17 16 5 -> 17
            base 0                # the other one is 7, 16
            point 0 -> 7,1
            """);
    }

    private static void sumWithInfinity(Sentences s) {
        s.holds(TERMS, "INFINITY added to a point gives that point", """
            curve 17 2 2 -> 19
            load 0 5 1
            sum 1 0 3
            sum 2 3 0
            registers -> 5,1 5,1 5,1 INFINITY
            load 0 0 11
            sum 1 3 0
            sum 2 0 3
            registers -> 0,11 0,11 0,11 INFINITY
            sum 0 3 3
            registers -> INFINITY 0,11 0,11 INFINITY
            sum 1 3 0
            point 1 -> INFINITY
            """);
    }

    private static void sumOfOpposites(Sentences s) {
        s.holds(TERMS, "x, y and x, p - y give INFINITY", """
            curve 17 2 2 -> 19
            load 0 5 1
            load 1 5 16
            sum 2 0 1
            sum 3 1 0
            registers -> 5,1 5,16 INFINITY INFINITY
            load 0 0 11
            load 1 0 6
            sum 0 0 1
            registers -> INFINITY 0,6 INFINITY INFINITY

            curve 17 7 13 -> 13
            load 0 0 8
            load 1 0 9
            base 2
            sum 2 0 1
            point 2 -> INFINITY

            curve 1021 615 73 -> 1069
            load 0 11 1
            load 1 11 1020
            load 2 142 1
            base 3
            sum 3 0 1
            point 3 -> INFINITY
            sum 3 1 2   # the ys are opposite, the xs are not the same
            point 3 -> 993,251
            """);
    }

    private static void sumOfOthers(Sentences s) {
        s.holds(TERMS, "otherwise, of x, y and u, v, with m = (v - y) / (u - x)", """
            curve 17 2 2 -> 19
            load 0 5 1
            load 1 6 3
            sum 2 0 1       # u - x is 1
            sum 3 1 0       # u - x and v - y are below 0
            registers -> 5,1 6,3 10,6 10,6
            load 1 3 1
            sum 2 0 1       # v - y is 0
            sum 3 1 0
            registers -> 5,1 3,1 9,16 9,16
            load 0 0 6
            load 1 16 4
            sum 2 0 1       # u - x is p - 1
            sum 3 1 0
            registers -> 0,6 16,4 5,1 5,1
            load 0 5 16
            load 1 6 3
            sum 2 0 1
            sum 3 1 0
            registers -> 5,16 6,3 5,1 5,1
            """);
    }

    private static void sumOfTheSame(Sentences s) {
        s.holds(TERMS, "or m = (3 * x^2 + a) / (2 * y) if they are the same point", """
            curve 17 2 2 -> 19
            load 0 5 1
            load 1 5 1
            sum 2 0 0
            sum 3 0 1       # the same point in two registers
            registers -> 5,1 5,1 6,3 6,3
            load 0 5 16
            sum 1 0 0       # 2 * y is above p
            load 2 0 6
            sum 3 2 2       # x is 0
            registers -> 5,16 6,14 0,6 9,1

            curve 7 0 4 -> 3
            load 0 0 2
            sum 1 0 0       # m is 0
            point 1 -> 0,5

            curve 17 3 5 -> 23
            load 0 4 8
            sum 1 0 0       # m is 0, though a is not
            point 1 -> 9,9

            curve 1021 615 73 -> 1069
            load 0 1020 645
            sum 1 0 0
            point 1 -> 80,114
            """);
    }

    private static void sumModuloP(Sentences s) {
        s.holds(TERMS, "all reckoning modulo p", """
            curve 17 2 2 -> 19
            load 0 5 1
            load 1 3 1
            sum 2 0 1          # m^2 - x - u is -8
            point 2 -> 9,16
            load 1 0 6
            sum 2 0 1
            point 2 -> 13,7
            load 0 16 13
            load 1 16 13
            sum 2 0 1
            point 2 -> 0,11

            curve 1021 719 767 -> 1009
            load 0 243 138
            load 1 699 537
            sum 2 0 1
            point 2 -> 0,968
            load 0 570 235
            load 1 230 645
            sum 2 0 1
            point 2 -> 1020,668
            load 0 233 284
            load 1 784 554
            sum 2 0 1
            point 2 -> 956,1
            load 0 213 796
            load 1 958 587
            sum 2 0 1
            point 2 -> 956,1020
            """);
    }

    private static void timesFromZeroUp(Sentences s) {
        s.holds(TERMS, "k TIMES a point is, for k from 0 up, the sum of k of it (INFINITY for 0)", """
            curve 17 2 2 -> 19
            load 0 5 1
            load 1 6 3
            times 1 0 0
            point 1 -> INFINITY
            times 1 1 0
            point 1 -> 5,1
            times 1 2 0
            point 1 -> 6,3
            times 1 3 0
            point 1 -> 10,6
            times 1 4 0
            point 1 -> 3,1
            times 1 18 0
            point 1 -> 5,16
            times 0 0 0
            point 0 -> INFINITY
            """);
    }

    private static void timesBelowZero(Sentences s) {
        s.holds(TERMS, "for k below 0, -k times the point x, p - y", """
            curve 17 2 2 -> 19
            load 0 5 1
            times 1 -1 0
            point 1 -> 5,16
            times 1 -2 0
            point 1 -> 6,14
            times 1 -3 0
            point 1 -> 10,11
            times 1 -18 0
            point 1 -> 5,1
            times 1 MIN 0       # -k is no int
            point 1 -> 10,11
            load 0 0 11
            times 0 -1 0
            point 0 -> 0,6
            """);
    }

    private static void timesInfinity(Sentences s) {
        s.holds(TERMS, "(INFINITY, if it is INFINITY)", """
            curve 17 2 2 -> 19
            base 1
            times 1 -1 0
            point 1 -> INFINITY
            base 1
            times 1 -19 0
            point 1 -> INFINITY
            base 1
            times 1 MIN 0
            point 1 -> INFINITY
            base 1
            times 1 0 0
            point 1 -> INFINITY
            base 1
            times 1 1 0
            point 1 -> INFINITY
            base 1
            times 1 7 0
            point 1 -> INFINITY
            base 1
            times 1 MAX 0
            registers -> INFINITY INFINITY INFINITY INFINITY
            """);
    }

    private static void timesModuloN(Sentences s) {
        s.holds(TERMS, "It hangs on k modulo n only", """
            curve 17 2 2 -> 19
            load 0 5 1
            times 1 18 0
            point 1 -> 5,16
            times 1 19 0
            point 1 -> INFINITY
            times 1 20 0
            point 1 -> 5,1
            times 1 38 0
            point 1 -> INFINITY
            times 1 -19 0
            point 1 -> INFINITY
            times 1 -20 0
            point 1 -> 5,16
            times 1 -37 0
            point 1 -> 5,1
            times 1 17 0       # p is not what counts
            point 1 -> 6,14
            times 1 MAX 0
            point 1 -> 6,3
            times 1 MIN 0
            point 1 -> 10,11

            curve 1021 0 10 -> 1069
            base 0
            times 1 1068 0
            times 2 1069 0
            times 3 1070 0
            registers -> 1,197 1,824 INFINITY 1,197
            times 1 -1068 0
            times 2 -1069 0
            times 3 -1070 0
            registers -> 1,197 1,197 INFINITY 1,824
            times 1 MAX 0
            times 2 MIN 0
            times 3 -2147483647 0
            registers -> 1,197 483,1017 813,765 483,4

            curve 5 4 2 -> 3
            base 0
            times 1 2 0
            times 2 3 0
            times 3 4 0
            registers -> 3,1 3,4 INFINITY 3,1
            """);
    }

    private static void fourRegisters(Sentences s) {
        s.holds(TERMS, "There are four REGISTERS 0 .. 3, each holding a point", """
            registers -> INFINITY INFINITY INFINITY INFINITY
            curve 17 2 2 -> 19
            load 3 5 1
            registers -> INFINITY INFINITY INFINITY 5,1
            load 0 6 3
            registers -> 6,3 INFINITY INFINITY 5,1
            load 2 10 6
            registers -> 6,3 INFINITY 10,6 5,1
            load 1 3 1
            registers -> 6,3 3,1 10,6 5,1
            decode 2 1 0
            registers -> 6,3 3,1 INFINITY 5,1
            load 4 9 1 -> IndexOutOfBounds
            load -1 9 1 -> IndexOutOfBounds
            registers -> 6,3 3,1 INFINITY 5,1
            """);
    }
}
