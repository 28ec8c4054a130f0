/**
 * The sections "Promise 1" to "Promise 16": each sentence, or part of one, has a test of its own. How rows
 * are read stands in Sentences; what the promises lean on is tested by the tests of the terms.
 */
public final class PromiseSentencesTest {
    private PromiseSentencesTest() {
    }

    public static void main(String[] args) {
        Sentences s = new Sentences();
        newObject(s);
        curveIsTaken(s);
        curveStartsAnew(s);
        curveIsRefused(s);
        order(s);
        load(s);
        base(s);
        sum(s);
        times(s);
        x(s);
        y(s);
        code(s);
        decode(s);
        key(s);
        sign(s);
        signThrows(s);
        draws(s);
        verify(s);
        accepts(s);
        callsThatOnlyAnswer(s);
        s.finish();
    }

    private static void newObject(Sentences s) {
        s.holds("Promise 1", "No curve", """
            order -> 0
            base 0 -> IllegalState
            load 0 0 6 -> IllegalState
            accepts 1 0 1 1 1 -> IllegalState
            """);
        s.holds("Promise 1", "no key", """
            sign 0 -> IllegalState
            curve 17 2 2 -> 19
            sign 0 -> IllegalState
            base 0
            sign 0 -> IllegalState
            """);
        s.holds("Promise 1", "all registers hold INFINITY.", """
            x 0 -> -1
            y 0 -> -1
            code 0 short -> 0
            code 0 plain -> 0
            x 3 -> -1
            y 3 -> -1
            code 3 short -> 0
            code 3 plain -> 0
            registers -> INFINITY INFINITY INFINITY INFINITY
            """);
    }

    private static void curveIsTaken(Sentences s) {
        s.holds("Promise 2", "Takes the curve p, a, b from now on", """
            curve 17 2 2 -> 19
            load 0 5 1
            curve 29 4 20 -> 37
            load 0 5 1 -> IllegalArgument      # a point of the curve before it
            decode 0 3 0x030009 -> IllegalArgument
            load 0 5 7
            sum 1 0 0
            point 1 -> 14,23
            base 2
            point 2 -> 0,7
            key 3 36
            point 3 -> 0,22
            curve 17 2 2 -> 19
            load 0 5 1
            sum 1 0 0
            point 1 -> 6,3
            key 3 36 -> IllegalArgument
            key 3 18
            sign 5 -> 393229
            curve 17 16 5 -> 17                # the same p, and another a
            load 0 7 1
            sum 1 0 0
            point 1 -> 11,13
            """);
        s.holds("Promise 2", "and answers its order", """
            curve 5 4 2 -> 3
            curve 5 3 2 -> 5
            curve 17 2 2 -> 19
            curve 17 2 2 -> 19
            curve 17 16 5 -> 17
            curve 1021 32 22 -> 967
            curve 1021 0 10 -> 1069
            curve 7 0 4 -> 3
            """);
    }

    private static void curveStartsAnew(Sentences s) {
        s.holds("Promise 2", "all registers hold INFINITY then", """
            curve 17 2 2 -> 19
            base 0
            base 1
            base 2
            base 3
            curve 29 4 20 -> 37
            registers -> INFINITY INFINITY INFINITY INFINITY
            base 0
            base 3
            curve 29 4 20 -> 37        # the same curve again
            registers -> INFINITY INFINITY INFINITY INFINITY
            """);
        s.holds("Promise 2", "and there is no key", """
            curve 29 4 20 -> 37
            key 0 20
            sign 77 -> 1245189
            curve 17 2 2 -> 19
            sign 77 -> IllegalState
            key 0 3
            sign 4 -> 851985
            curve 17 2 2 -> 19         # the same curve again
            sign 4 -> IllegalState
            """);
    }

    private static void curveIsRefused(Sentences s) {
        s.holds("Promise 2", "IllegalArgumentException when it is no curve that is taken.", """
            curve 3 2 1 -> IllegalArgument     # p is too small
            curve 1031 1 17 -> IllegalArgument # p is too large
            curve 15 7 11 -> IllegalArgument   # p is no prime
            curve 7 7 4 -> IllegalArgument     # a is too large
            curve 5 -1 2 -> IllegalArgument    # a is too small
            curve 7 1 8 -> IllegalArgument     # b is too large
            curve 7 1 -1 -> IllegalArgument    # b is too small
            curve 5 2 2 -> IllegalArgument     # 4 * a^3 + 27 * b^2 is 0
            curve 5 2 0 -> IllegalArgument     # the order is 2
            curve 5 1 1 -> IllegalArgument     # the order is 9
            order -> 0

            curve 29 4 20 -> 37
            key 1 20
            base 2
            curve 3 2 1 -> IllegalArgument
            curve 5 2 0 -> IllegalArgument
            curve 1021 1 290 -> IllegalArgument
            order -> 37
            registers -> INFINITY 16,27 0,7 INFINITY
            sign 77 -> 1245189
            """);
    }

    private static void order(Sentences s) {
        s.holds("Promise 3", "The order of the curve", """
            curve 5 4 2 -> 3
            order -> 3
            order -> 3
            curve 1021 0 10 -> 1069
            order -> 1069
            curve 17 0 0 -> IllegalArgument
            order -> 1069
            """);
        s.holds("Promise 3", "0 when there is none.", """
            order -> 0
            curve 17 0 0 -> IllegalArgument
            order -> 0
            curve 17 1 1 -> IllegalArgument
            order -> 0
            base 0 -> IllegalState
            order -> 0
            """);
    }

    private static void load(Sentences s) {
        s.holds("Promise 4", "Register r holds the point x, y.", """
            curve 17 2 2 -> 19
            load 0 0 6
            registers -> 0,6 INFINITY INFINITY INFINITY
            load 3 16 13
            registers -> 0,6 INFINITY INFINITY 16,13
            load 0 5 16
            registers -> 5,16 INFINITY INFINITY 16,13
            load 0 5 16
            registers -> 5,16 INFINITY INFINITY 16,13
            """);
        s.holds("Promise 4", "IllegalArgumentException when that is no point of the curve.", """
            curve 17 2 2 -> 19
            load 2 5 1
            load 2 5 2 -> IllegalArgument
            load 2 5 0 -> IllegalArgument
            load 2 1 0 -> IllegalArgument
            load 2 -1 -1 -> IllegalArgument     # x and y of INFINITY
            load 2 5 18 -> IllegalArgument
            load 2 22 1 -> IllegalArgument
            load 2 6 27 -> IllegalArgument
            registers -> INFINITY INFINITY 5,1 INFINITY
            """);
    }

    private static void base(Sentences s) {
        s.holds("Promise 5", "Register r holds BASE.", """
            curve 17 2 2 -> 19
            base 0
            registers -> 0,6 INFINITY INFINITY INFINITY
            base 3
            registers -> 0,6 INFINITY INFINITY 0,6
            load 3 5 1
            base 3
            base 1
            base 2
            registers -> 0,6 0,6 0,6 0,6
            curve 5 4 2 -> 3
            base 3
            registers -> INFINITY INFINITY INFINITY 3,1
            """);
    }

    private static void sum(Sentences s) {
        s.holds("Promise 6", "Register d holds the sum of the points in registers a and b.", """
            curve 17 2 2 -> 19
            load 0 5 1
            load 1 6 3
            load 2 3 16
            sum 3 0 1
            registers -> 5,1 6,3 3,16 10,6
            sum 3 1 0
            registers -> 5,1 6,3 3,16 10,6
            sum 3 2 1
            registers -> 5,1 6,3 3,16 6,14
            sum 0 1 2
            registers -> 6,14 6,3 3,16 6,14
            """);
        s.holds("Promise 6", "(d may be one of these.)", """
            curve 17 2 2 -> 19
            load 0 5 1
            load 1 6 3
            sum 0 0 1
            registers -> 10,6 6,3 INFINITY INFINITY
            sum 1 0 1
            registers -> 10,6 9,16 INFINITY INFINITY
            sum 0 0 0
            registers -> 16,13 9,16 INFINITY INFINITY
            sum 2 2 0
            registers -> 16,13 9,16 16,13 INFINITY
            sum 3 3 3
            registers -> 16,13 9,16 16,13 INFINITY
            times 1 -1 0
            sum 0 0 1
            registers -> INFINITY 16,4 16,13 INFINITY
            """);
    }

    private static void times(Sentences s) {
        s.holds("Promise 7", "Register d holds k times the point in register a.", """
            curve 17 2 2 -> 19
            load 0 5 1
            load 1 6 3
            times 2 3 0
            registers -> 5,1 6,3 10,6 INFINITY
            times 3 3 1
            registers -> 5,1 6,3 10,6 16,13
            times 2 0 1
            registers -> 5,1 6,3 INFINITY 16,13
            times 0 5 0               # d is a
            registers -> 9,16 6,3 INFINITY 16,13
            times 1 19 1
            registers -> 9,16 INFINITY INFINITY 16,13
            times 3 -1 3
            registers -> 9,16 INFINITY INFINITY 16,4
            times 3 7 1
            registers -> 9,16 INFINITY INFINITY INFINITY
            """);
    }

    private static void x(Sentences s) {
        s.holds("Promise 8", "The x of the point in register r", """
            curve 17 2 2 -> 19
            load 0 0 6
            load 1 16 4
            load 2 5 1
            load 3 3 16
            x 0 -> 0
            x 1 -> 16
            x 2 -> 5
            x 3 -> 3
            curve 1021 615 73 -> 1069
            load 0 1020 645
            x 0 -> 1020
            load 0 256 38
            x 0 -> 256
            """);
        s.holds("Promise 8", "-1 for INFINITY.", """
            x 0 -> -1
            x 3 -> -1
            curve 17 2 2 -> 19
            x 0 -> -1
            base 0
            x 0 -> 0
            times 0 0 0
            x 0 -> -1
            """);
    }

    private static void y(Sentences s) {
        s.holds("Promise 9", "The y of the point in register r", """
            curve 17 2 2 -> 19
            load 0 0 6
            load 1 16 4
            load 2 5 1
            load 3 3 16
            y 0 -> 6
            y 1 -> 4
            y 2 -> 1
            y 3 -> 16
            curve 1021 615 73 -> 1069
            load 0 11 1020
            y 0 -> 1020
            load 0 633 257
            y 0 -> 257
            """);
        s.holds("Promise 9", "-1 for INFINITY.", """
            y 0 -> -1
            y 3 -> -1
            curve 17 2 2 -> 19
            y 0 -> -1
            base 0
            y 0 -> 6
            times 0 0 0
            y 0 -> -1
            """);
    }

    private static void code(Sentences s) {
        s.holds("Promise 10", "The number that the bytes of the point in register r make together, shortly or plainly.", """
            code 0 short -> 0
            code 3 plain -> 0
            curve 17 2 2 -> 19
            load 0 0 6
            load 1 9 1
            load 3 16 13
            code 0 short -> 0x020000
            code 0 plain -> 0x0400000006
            code 1 short -> 0x030009
            code 1 plain -> 0x0400090001
            code 2 short -> 0
            code 2 plain -> 0
            code 3 short -> 0x030010
            code 3 plain -> 0x040010000d
            curve 1021 615 73 -> 1069
            load 2 1020 645
            code 2 short -> 0x0303fc
            code 2 plain -> 0x0403fc0285
            """);
    }

    private static void decode(Sentences s) {
        s.holds("Promise 11", "Register d holds the point whose bytes these are.", """
            curve 17 2 2 -> 19
            decode 0 3 0x020000
            decode 1 3 0x030000
            decode 2 5 0x0400100004
            decode 3 5 0x040010000d
            registers -> 0,6 0,11 16,4 16,13
            decode 3 1 0
            registers -> 0,6 0,11 16,4 INFINITY
            decode 0 1 0
            registers -> INFINITY 0,11 16,4 INFINITY
            decode 0 3 0x020005
            decode 3 3 0x030005
            registers -> 5,16 0,11 16,4 5,1
            """);
        s.holds("Promise 11", "IllegalArgumentException when they are not WELL-FORMED.", """
            curve 17 2 2 -> 19
            base 2
            decode 2 0 0 -> IllegalArgument
            decode 2 1 1 -> IllegalArgument
            decode 2 2 0x0005 -> IllegalArgument
            decode 2 3 0 -> IllegalArgument
            decode 2 3 0x010005 -> IllegalArgument
            decode 2 3 0x040005 -> IllegalArgument
            decode 2 3 0x020001 -> IllegalArgument
            decode 2 3 0x020016 -> IllegalArgument
            decode 2 4 0x03000500 -> IllegalArgument
            decode 2 5 0 -> IllegalArgument
            decode 2 5 0x0300050001 -> IllegalArgument
            decode 2 5 0x0400050002 -> IllegalArgument
            decode 2 5 0x0400160001 -> IllegalArgument
            decode 2 5 0x0400050012 -> IllegalArgument
            decode 2 6 0x040005000100 -> IllegalArgument
            decode 2 -1 0 -> IllegalArgument
            decode 2 1 -1 -> IllegalArgument
            decode 2 3 -1 -> IllegalArgument
            decode 2 5 -1 -> IllegalArgument
            registers -> INFINITY INFINITY 0,6 INFINITY
            """);
    }

    private static void key(Sentences s) {
        s.holds("Promise 12", "The key is d from now on", """
            curve 29 4 20 -> 37
            key 2 20
            sign 77 -> 1245189
            key 2 1
            sign 77 -> 655368
            key 2 36
            sign 77 -> 65568
            key 2 20
            base 2                    # the key does not hang on the register
            sign 77 -> 1245189
            decode 2 1 0
            sign 77 -> 1245189
            """);
        s.holds("Promise 12", "and register r holds d times BASE.", """
            curve 29 4 20 -> 37
            key 0 1
            registers -> 0,7 INFINITY INFINITY INFINITY
            key 3 36
            registers -> 0,7 INFINITY INFINITY 0,22
            key 1 20
            registers -> 0,7 16,27 INFINITY 0,22
            key 0 2
            base 2
            sum 2 2 2
            registers -> 6,12 16,27 6,12 0,22
            """);
        s.holds("Promise 12", "IllegalArgumentException when d is not 1 .. n - 1.", """
            curve 29 4 20 -> 37
            key 1 20
            key 1 0 -> IllegalArgument
            key 1 -1 -> IllegalArgument
            key 1 37 -> IllegalArgument
            key 1 38 -> IllegalArgument
            key 1 57 -> IllegalArgument        # 20 + n
            key 1 -17 -> IllegalArgument       # 20 - n
            key 1 2424852 -> IllegalArgument   # 20 + 37 * 65536
            key 1 MIN -> IllegalArgument
            key 1 MAX -> IllegalArgument
            point 1 -> 16,27
            sign 77 -> 1245189
            key 1 1
            key 1 36
            point 1 -> 0,22
            curve 5 4 3 -> 3
            key 0 3 -> IllegalArgument
            key 0 0 -> IllegalArgument
            key 0 1
            key 0 2
            curve 1021 0 10 -> 1069
            key 0 1069 -> IllegalArgument
            key 0 1068                 # above p, and below n
            point 0 -> 1,824
            curve 1021 32 22 -> 967
            key 0 967 -> IllegalArgument
            key 0 1020 -> IllegalArgument
            key 0 966
            """);
    }

    private static void sign(Sentences s) {
        s.holds("Promise 13", "The signature of the message z with the key: r * 65536 + s.", """
            curve 29 4 20 -> 37
            key 0 20
            sign 77 -> 1245189         # 19, 5
            verify 0 77 19 5 -> true
            sign 77 -> 1245189
            sign -77 -> 1048599        # 16, 23
            verify 0 -77 16 23 -> true
            curve 5 3 2 -> 5
            key 0 3
            sign 3 -> 65537            # 1, 1
            verify 0 3 1 1 -> true
            curve 983 865 186 -> 1021
            key 0 55
            sign 17 -> 58917883        # 899, 1019
            verify 0 17 899 1019 -> true
            """);
    }

    private static void signThrows(Sentences s) {
        s.holds("Promise 13", "IllegalStateException also when there is no key", """
            sign 1 -> IllegalState
            curve 29 4 20 -> 37
            sign 1 -> IllegalState
            key 0 0 -> IllegalArgument
            key 0 37 -> IllegalArgument
            key 4 1 -> IndexOutOfBounds
            sign 1 -> IllegalState
            base 0
            sign 1 -> IllegalState
            key 0 20
            sign 77 -> 1245189
            curve 29 4 20 -> 37
            sign 77 -> IllegalState
            """);
        s.holds("Promise 13", "ArithmeticException when signing fails.", """
            curve 5 4 3 -> 3
            key 0 1
            sign 1 -> Arithmetic
            sign 4 -> Arithmetic
            sign -2 -> Arithmetic
            sign 0 -> 131074
            sign 2 -> 131074
            sign 1 -> Arithmetic
            curve 571 377 233 -> 563
            key 0 411
            sign 106 -> Arithmetic
            sign 669 -> Arithmetic
            sign -457 -> Arithmetic
            sign 105 -> 31981667
            """);
    }

    private static void draws(Sentences s) {
        s.holds("Promise 14", "How many draws the latest signing that gave a signature took", """
            curve 29 4 20 -> 37
            key 0 20
            sign -77 -> 1048599
            draws -> 4
            sign 77 -> 1245189
            draws -> 2
            draws -> 2
            sign -77 -> 1048599
            key 0 3
            draws -> 4
            verify 0 1 1 1 -> false
            accepts 1 0 1 1 1 -> false
            draws -> 4
            curve 5 4 3 -> 3
            key 0 1
            sign 1 -> Arithmetic       # gives none
            draws -> 4
            sign 0 -> 131074
            draws -> 1
            sign 1 -> Arithmetic
            draws -> 1
            curve 977 9 526 -> 1031
            key 0 15
            sign 526 -> 19005871
            draws -> 24
            """);
        s.holds("Promise 14", "(on any curve)", """
            curve 29 4 20 -> 37
            key 0 20
            sign -77 -> 1048599
            curve 17 2 2 -> 19
            draws -> 4
            sign 1 -> IllegalState
            draws -> 4
            curve 17 0 0 -> IllegalArgument
            draws -> 4
            curve 29 4 20 -> 37
            draws -> 4
            """);
        s.holds("Promise 14", "0 when there was none.", """
            draws -> 0
            sign 1 -> IllegalState
            draws -> 0
            curve 5 4 3 -> 3
            draws -> 0
            sign 1 -> IllegalState
            draws -> 0
            key 0 1
            draws -> 0
            sign 1 -> Arithmetic
            draws -> 0
            verify 0 0 2 2 -> true
            draws -> 0
            """);
    }

    private static void verify(Sentences s) {
        s.holds("Promise 15", "Whether the point in register q fits the signature r, s of the message z.", """
            curve 29 4 20 -> 37
            load 0 16 27
            load 3 16 27
            load 1 16 2
            verify 0 77 19 5 -> true
            verify 3 77 19 5 -> true
            verify 1 77 19 5 -> false      # the other point with this x
            verify 2 77 19 5 -> false      # INFINITY
            verify 0 78 19 5 -> false
            verify 0 77 20 5 -> false
            verify 0 77 18 5 -> false
            verify 0 77 19 4 -> false
            verify 0 77 19 6 -> false
            verify 0 77 19 32 -> true      # n - s fits as well
            verify 0 77 5 19 -> false
            verify 0 77 0 5 -> false
            verify 0 77 19 0 -> false
            verify 0 77 37 5 -> false
            verify 0 77 19 37 -> false
            verify 0 77 56 5 -> false
            verify 0 77 19 42 -> false
            verify 0 77 -18 5 -> false
            verify 0 77 19 -32 -> false
            base 0
            verify 0 77 19 5 -> false
            decode 3 1 0
            verify 3 77 19 5 -> false
            """);
    }

    private static void accepts(Sentences s) {
        s.holds("Promise 16", "Whether these bytes are WELL-FORMED", """
            curve 29 4 20 -> 37
            accepts 3 0x030010 77 19 5 -> true
            accepts 5 0x040010001b 77 19 5 -> true
            accepts 1 0 77 19 5 -> false
            accepts 1 1 77 19 5 -> false
            accepts 0 0 77 19 5 -> false
            accepts 2 0x030010 77 19 5 -> false
            accepts 4 0x030010 77 19 5 -> false
            accepts 4 0x040010001b 77 19 5 -> false
            accepts 6 0x040010001b 77 19 5 -> false
            accepts 5 0x030010 77 19 5 -> false
            accepts 3 0x040010001b 77 19 5 -> false
            accepts 3 0x130010 77 19 5 -> false
            accepts 3 0x1030010 77 19 5 -> false
            accepts 3 0x03002d 77 19 5 -> false          # x is 16 + p
            accepts 3 0x030110 77 19 5 -> false          # x is 16 + 256
            accepts 5 0x0400100038 77 19 5 -> false      # y is 27 + p
            accepts 5 0x04002d001b 77 19 5 -> false      # x is 16 + p
            accepts 5 0x050010001b 77 19 5 -> false
            accepts 5 0x060010001b 77 19 5 -> false
            accepts 5 0x070010001b 77 19 5 -> false
            accepts 5 0x01040010001b 77 19 5 -> false
            accepts 3 -1 77 19 5 -> false
            accepts MIN 0x030010 77 19 5 -> false
            accepts MAX MAX 77 19 5 -> false
            accepts 3 MIN 77 19 5 -> false
            """);
        s.holds("Promise 16", "and their point fits the signature r, s of the message z.", """
            curve 29 4 20 -> 37
            accepts 3 0x030010 77 19 5 -> true
            accepts 3 0x020010 77 19 5 -> false          # the other point with this x
            accepts 5 0x0400100002 77 19 5 -> false
            accepts 3 0x030010 76 19 5 -> false
            accepts 3 0x030010 77 20 5 -> false
            accepts 3 0x030010 77 19 6 -> false
            accepts 3 0x030010 77 0 5 -> false
            accepts 3 0x030010 77 37 5 -> false
            accepts 3 0x030010 77 19 0 -> false
            accepts 3 0x030010 77 19 37 -> false
            accepts 3 0x030010 77 56 5 -> false
            accepts 5 0x040010001b 77 19 42 -> false
            accepts 5 0x040010001b 40 19 5 -> true
            accepts 5 0x040010001b 77 19 32 -> true
            accepts 1 0 0 19 5 -> false
            """);
    }

    private static void callsThatOnlyAnswer(Sentences s) {
        s.holds("Not promised", "Nothing is promised beyond the answers and state changes described above", """
            curve 29 4 20 -> 37
            key 1 20
            base 2
            sign -77 -> 1048599
            order -> 37
            x 1 -> 16
            y 1 -> 27
            code 1 short -> 0x030010
            code 1 plain -> 0x040010001b
            verify 1 77 19 5 -> true
            verify 2 77 19 5 -> false
            accepts 1 0 77 19 5 -> false
            accepts 3 0x020010 77 19 5 -> false
            accepts 5 0x040010001b 77 19 5 -> true
            draws -> 4
            registers -> INFINITY 16,27 0,7 INFINITY
            sign 77 -> 1245189
            registers -> INFINITY 16,27 0,7 INFINITY
            order -> 37
            """);
    }
}
