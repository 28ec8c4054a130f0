/**
 * The section "Terms", as far as bytes, signatures and drawing go: each sentence, or part of one, that
 * names a boundary has a test of its own. How rows are read stands in Sentences.
 */
public final class TermsOfSignaturesTest {
    private static final String TERMS = "Terms";

    private TermsOfSignaturesTest() {
    }

    public static void main(String[] args) {
        Sentences s = new Sentences();
        bytesFromZeroTo255(s);
        firstByteIsHighest(s);
        byteOfInfinity(s);
        fiveBytes(s);
        threeBytes(s);
        numberOfBytes(s);
        firstBytesThatAreNone(s);
        bytesOfNoPoint(s);
        anyMessage(s);
        messageModuloN(s);
        infinityNeverFits(s);
        rangeOfR(s);
        rangeOfS(s);
        numberT(s);
        sumIsNotInfinity(s);
        xIsRModuloN(s);
        intsThatWrap(s);
        startOfDrawing(s);
        leastMask(s);
        drawnNumberInRange(s);
        xModuloN(s);
        dividedByK(s);
        neitherIsZero(s);
        lastDraw(s);
        nextDraw(s);
        s.finish();
    }

    private static void bytesFromZeroTo255(Sentences s) {
        s.holds(TERMS, "each from 0 to 255", """
            curve 1021 615 73 -> 1069
            load 0 255 374
            load 1 256 983
            load 2 767 413
            load 3 768 656
            code 0 short -> 0x0200ff
            code 1 short -> 0x030100
            code 2 short -> 0x0302ff
            code 3 short -> 0x020300
            code 0 plain -> 0x0400ff0176
            code 1 plain -> 0x04010003d7
            code 2 plain -> 0x0402ff019d
            code 3 plain -> 0x0403000290

            curve 17 2 2 -> 19
            base 2
            decode 2 3 0x01020000 -> IllegalArgument           # four bytes, of which the last three would do
            decode 2 3 0xff020000 -> IllegalArgument
            decode 2 3 0x100020000 -> IllegalArgument
            decode 2 3 0x8000000020000 -> IllegalArgument
            decode 2 3 0x4000000000020000 -> IllegalArgument
            decode 2 3 -9223372036854644736 -> IllegalArgument # 0x020000 with the highest bit
            decode 2 3 -16646144 -> IllegalArgument            # 0x020000 - 2^24
            decode 2 3 -131072 -> IllegalArgument
            decode 2 5 0x010400000006 -> IllegalArgument       # six bytes, of which the last five would do
            decode 2 5 0x4000000400000006 -> IllegalArgument
            decode 2 5 -9223372019674906618 -> IllegalArgument # 0x0400000006 with the highest bit
            decode 2 5 -1082331758586 -> IllegalArgument       # 0x0400000006 - 2^40
            decode 2 5 -17179869190 -> IllegalArgument
            decode 2 1 256 -> IllegalArgument                  # two bytes, of which the last one would do
            decode 2 1 0x100000000 -> IllegalArgument
            decode 2 1 MIN -> IllegalArgument
            decode 2 3 MIN -> IllegalArgument
            decode 2 3 MAX -> IllegalArgument
            decode 2 5 MIN -> IllegalArgument
            decode 2 5 MAX -> IllegalArgument
            point 2 -> 0,6
            """);
    }

    private static void firstByteIsHighest(Sentences s) {
        s.holds(TERMS, "the first one is the highest in the number that they make together", """
            curve 1021 615 73 -> 1069
            load 0 513 814
            code 0 short -> 131585                     # 2 * 65536 + 2 * 256 + 1
            code 0 plain -> 17213489966                # ((((4 * 256) + 2) * 256 + 1) * 256 + 3) * 256 + 46
            decode 1 3 131585
            decode 2 5 17213489966
            decode 3 3 66050 -> IllegalArgument        # the bytes 2, 2, 1 turned round: 1, 2, 2
            decode 3 5 198184304132 -> IllegalArgument # the five bytes turned round
            registers -> 513,814 513,814 513,814 INFINITY
            """);
    }

    private static void byteOfInfinity(Sentences s) {
        s.holds(TERMS, "INFINITY has the one byte 0", """
            curve 17 2 2 -> 19
            code 0 short -> 0
            code 0 plain -> 0
            base 0
            decode 0 1 0
            point 0 -> INFINITY
            base 0
            decode 0 3 0 -> IllegalArgument
            decode 0 5 0 -> IllegalArgument
            decode 0 0 0 -> IllegalArgument
            decode 0 2 0 -> IllegalArgument
            point 0 -> 0,6
            """, "curve 17 2 2 -> 19\nbase 0\n" + Sentences.rows("decode 0 1 I -> IllegalArgument", 1, 256)
            + Sentences.rows("decode 0 1 I -> IllegalArgument", -9, -1) + "point 0 -> 0,6\n");
    }

    private static void fiveBytes(Sentences s) {
        s.holds(TERMS, "any other point plainly the five bytes 4, x / 256, x % 256, y / 256, y % 256", """
            curve 1021 719 767 -> 1009
            load 0 0 53
            code 0 plain -> 0x0400000035
            load 0 956 1
            code 0 plain -> 0x0403bc0001
            load 0 904 255
            code 0 plain -> 0x04038800ff
            load 0 6 256
            code 0 plain -> 0x0400060100
            load 0 255 174
            code 0 plain -> 0x0400ff00ae
            load 0 257 1007
            code 0 plain -> 0x04010103ef
            load 0 947 511
            code 0 plain -> 0x0403b301ff
            load 0 512 213
            code 0 plain -> 0x04020000d5
            load 0 1020 668
            code 0 plain -> 0x0403fc029c
            load 0 956 1020
            code 0 plain -> 0x0403bc03fc
            decode 1 5 0x04038800ff
            point 1 -> 904,255
            decode 1 5 0x0400060100
            point 1 -> 6,256
            decode 1 5 0x0400000035
            point 1 -> 0,53
            decode 1 5 0x0403bc03fc
            point 1 -> 956,1020
            decode 1 5 0x0403fc029c
            point 1 -> 1020,668
            """);
    }

    private static void threeBytes(Sentences s) {
        s.holds(TERMS, "shortly the three bytes 2 + y % 2, x / 256, x % 256", """
            curve 1021 615 73 -> 1069
            load 0 0 56
            code 0 short -> 0x020000
            load 0 0 965
            code 0 short -> 0x030000
            load 0 255 647
            code 0 short -> 0x0300ff
            load 0 256 38
            code 0 short -> 0x020100
            load 0 511 460
            code 0 short -> 0x0201ff
            load 0 512 467
            code 0 short -> 0x030200
            load 0 1020 376
            code 0 short -> 0x0203fc
            load 0 1020 645
            code 0 short -> 0x0303fc
            load 0 11 1
            code 0 short -> 0x03000b
            load 0 11 1020
            code 0 short -> 0x02000b
            decode 1 3 0x020000
            point 1 -> 0,56
            decode 1 3 0x030000
            point 1 -> 0,965
            decode 1 3 0x0200ff
            point 1 -> 255,374
            decode 1 3 0x030100
            point 1 -> 256,983
            decode 1 3 0x0203fc
            point 1 -> 1020,376
            decode 1 3 0x0303fc
            point 1 -> 1020,645
            decode 1 3 0x03000b
            point 1 -> 11,1
            decode 1 3 0x02000b
            point 1 -> 11,1020
            curve 7 0 3 -> 13
            decode 0 3 0x020001
            decode 1 3 0x030001
            decode 2 3 0x020006
            decode 3 3 0x030006
            registers -> 1,2 1,5 6,4 6,3
            curve 11 2 7 -> 7
            decode 0 3 0x020006
            decode 1 3 0x030006
            decode 2 3 0x02000a
            decode 3 3 0x03000a
            registers -> 6,2 6,9 10,2 10,9
            curve 23 5 1 -> 31
            decode 0 3 0x020000
            decode 1 3 0x030000
            decode 2 3 0x020016
            decode 3 3 0x030016
            registers -> 0,22 0,1 22,8 22,15
            curve 31 0 3 -> 43
            decode 0 3 0x020001
            decode 1 3 0x030001
            decode 2 3 0x02001e
            decode 3 3 0x03001e
            registers -> 1,2 1,29 30,8 30,23
            curve 257 5 30 -> 271
            decode 0 3 0x020000
            decode 1 3 0x030000
            decode 2 3 0x0200fc
            decode 3 3 0x0300fc
            registers -> 0,162 0,95 252,44 252,213
            curve 1009 330 520 -> 1031
            decode 0 3 0x02000a
            decode 1 3 0x03000a
            decode 2 3 0x0203f0
            decode 3 3 0x0303f0
            registers -> 10,28 10,981 1008,944 1008,65
            curve 1019 254 182 -> 1009
            decode 0 3 0x020001
            decode 1 3 0x030001
            decode 2 3 0x0203f9
            decode 3 3 0x0303f9
            registers -> 1,496 1,523 1017,950 1017,69
            """);
    }

    private static void numberOfBytes(Sentences s) {
        String start = "curve 17 2 2 -> 19\nbase 0\n";
        String end = "point 0 -> 0,6\n";
        s.holds(TERMS, "A number of bytes and a number (the bytes together) are WELL-FORMED: the number of bytes",
            start + Sentences.rows("decode 0 I 0 -> IllegalArgument", -9, 0)
                + Sentences.rows("decode 0 I 0 -> IllegalArgument", 2, 40) + end,
            start + Sentences.rows("decode 0 I 0x030005 -> IllegalArgument", -9, 2)
                + Sentences.rows("decode 0 I 0x030005 -> IllegalArgument", 4, 40) + end,
            start + Sentences.rows("decode 0 I 0x0400050001 -> IllegalArgument", -9, 4)
                + Sentences.rows("decode 0 I 0x0400050001 -> IllegalArgument", 6, 40) + end, """
            curve 17 2 2 -> 19
            base 0
            decode 0 257 0 -> IllegalArgument
            decode 0 259 0x030005 -> IllegalArgument
            decode 0 261 0x0400050001 -> IllegalArgument
            decode 0 -253 0x030005 -> IllegalArgument
            decode 0 MIN 0 -> IllegalArgument
            decode 0 MAX 0x030005 -> IllegalArgument
            point 0 -> 0,6
            decode 0 5 0x0400050001
            decode 1 3 0x030005
            decode 2 1 0
            registers -> 5,1 5,1 INFINITY INFINITY
            """);
    }

    private static void firstBytesThatAreNone(Sentences s) {
        String start = "curve 17 2 2 -> 19\nbase 0\n";
        String end = "point 0 -> 0,6\n";
        s.holds(TERMS, "are WELL-FORMED if they are one of these: the first byte",
            start + firstBytes(3, 0x000005L, 2, 3) + end,
            start + firstBytes(5, 0x0000050001L, 4, 4) + end,
            start + firstBytes(5, 0x0000050010L, 4, 4) + end);
    }

    /** All first bytes but those from first to last, before the other bytes of a point. */
    private static String firstBytes(int bytes, long others, int first, int last) {
        StringBuilder rows = new StringBuilder();
        for (int each = 0; each <= 255; each++) {
            if (each < first || each > last) {
                long number = ((long) each << 8 * (bytes - 1)) + others;
                rows.append("decode 0 " + bytes + " " + number + " -> IllegalArgument\n");
            }
        }
        return rows.toString();
    }

    private static void bytesOfNoPoint(Sentences s) {
        s.holds(TERMS, "one of these for some point", """
            curve 17 2 2 -> 19
            base 0
            decode 0 3 0x020001 -> IllegalArgument      # no point has x = 1
            decode 0 3 0x030001 -> IllegalArgument
            decode 0 3 0x02000f -> IllegalArgument
            decode 0 3 0x020011 -> IllegalArgument      # 0 + p
            decode 0 3 0x030011 -> IllegalArgument
            decode 0 3 0x020016 -> IllegalArgument      # 5 + p
            decode 0 3 0x0200ff -> IllegalArgument      # 0 + 15 p
            decode 0 3 0x02ffff -> IllegalArgument      # 0 + 3855 p
            decode 0 3 0x030105 -> IllegalArgument      # 5 + 256
            decode 0 3 0x028000 -> IllegalArgument
            decode 0 5 0x0400010001 -> IllegalArgument
            decode 0 5 0x0400050002 -> IllegalArgument
            decode 0 5 0x0400050000 -> IllegalArgument
            decode 0 5 0x0400160001 -> IllegalArgument  # x is 5 + p
            decode 0 5 0x0400050012 -> IllegalArgument  # y is 1 + p
            decode 0 5 0x0401050001 -> IllegalArgument  # x is 5 + 256
            decode 0 5 0x0400050101 -> IllegalArgument  # y is 1 + 256
            decode 0 5 0x040005ffff -> IllegalArgument
            decode 0 5 0x04ffff0006 -> IllegalArgument  # x is 0 + 3855 p
            decode 0 5 0x0480000006 -> IllegalArgument
            point 0 -> 0,6
            decode 0 3 0x020010
            point 0 -> 16,4
            decode 0 5 0x0400050010
            point 0 -> 5,16

            curve 1021 615 73 -> 1069
            base 0
            decode 0 3 0x0203fd -> IllegalArgument      # x is p
            decode 0 3 0x0303fd -> IllegalArgument
            decode 0 3 0x030408 -> IllegalArgument      # x is 11 + p
            decode 0 5 0x0403fd0038 -> IllegalArgument  # x is p, the y of 0
            decode 0 5 0x04000b03fe -> IllegalArgument  # y is 1 + p
            decode 0 3 0x030101 -> IllegalArgument      # no point has x = 257
            point 0 -> 0,56
            """);
    }

    private static void anyMessage(Sentences s) {
        s.holds(TERMS, "A SIGNATURE of a message z (any long) is a pair r, s of numbers", """
            curve 29 4 20 -> 37
            key 0 20
            sign MAX -> 393223
            sign MIN -> 1572880
            sign 9223372036854775806 -> 196622
            sign -9223372036854775807 -> 65554
            sign 4294967296 -> 196640
            sign 2147483648 -> 1769496
            sign -2147483649 -> 1245216
            sign 0 -> 1572898

            curve 1021 0 10 -> 1069
            key 3 1068
            sign MAX -> 14877474
            verify 3 MAX 227 802 -> true
            accepts 3 0x020001 MAX 227 802 -> true
            sign MIN -> 17236069
            verify 3 MIN 263 101 -> true
            accepts 3 0x020001 MIN 263 101 -> true
            verify 3 MAX 263 101 -> false
            accepts 3 0x020001 MIN 227 802 -> false
            """);
    }

    private static void messageModuloN(Sentences s) {
        s.holds(TERMS, "With e = z modulo n (0 .. n - 1, also for z below 0)", """
            curve 29 4 20 -> 37
            key 0 20
            sign 36 -> 1245209
            sign -1 -> 1245209
            sign 73 -> 1245209
            sign -38 -> 1245209
            sign 0 -> 1572898
            sign 37 -> 1572898
            sign -37 -> 1572898
            sign 1 -> 917539
            sign 38 -> 917539
            sign -36 -> 917539
            verify 0 77 19 5 -> true
            verify 0 3 19 5 -> true
            verify 0 -34 19 5 -> true
            verify 0 36999999999966 19 5 -> true
            verify 0 -36999999999997 19 5 -> true
            verify 0 76 19 5 -> false
            verify 0 78 19 5 -> false
            accepts 3 0x030010 77 19 5 -> true
            accepts 3 0x030010 3 19 5 -> true
            accepts 3 0x030010 -34 19 5 -> true
            accepts 3 0x030010 34 19 5 -> false
            """);
    }

    private static void infinityNeverFits(Sentences s) {
        // 2 times BASE is 9, 1, so that INFINITY would fit if it might.
        s.holds(TERMS, "a point Q FITS it if Q is not INFINITY", """
            curve 17 2 2 -> 19
            verify 3 2 9 1 -> false
            accepts 1 0 2 9 1 -> false
            base 0
            times 1 2 0
            point 1 -> 9,1
            """, "curve 17 2 2 -> 19\n" + Sentences.rows("verify 0 I 5 1 -> false", -20, 40)
                + Sentences.rows("verify 0 2 I 1 -> false", -20, 40)
                + Sentences.rows("verify 0 2 9 I -> false", -20, 40)
                + Sentences.rows("accepts 1 0 I 5 1 -> false", -20, 40)
                + Sentences.rows("accepts 1 0 2 I 1 -> false", -20, 40));
    }

    private static void rangeOfR(Sentences s) {
        // Q is 3 times BASE; the points 1 .. 6 times BASE have the x 6, 10, 7, 7, 10, 6.
        s.holds(TERMS, "r and s are from 1 to n - 1: r", """
            curve 11 2 7 -> 7
            base 0
            times 0 3 0
            verify 0 2 6 1 -> true
            verify 0 2 -1 1 -> false
            verify 0 2 13 1 -> false
            verify 0 1 3 2 -> true
            verify 0 1 10 2 -> false     # the x itself
            verify 0 1 -4 2 -> false
            verify 0 1 458755 2 -> false # 3 + 7 * 65536
            verify 0 3 0 1 -> false      # 3 times BASE has x = 7, which is 0 modulo n
            verify 0 3 7 1 -> false
            verify 0 3 -7 1 -> false
            verify 0 1 MAX 2 -> false
            verify 0 1 MIN 2 -> false
            accepts 3 0x030007 3 0 1 -> false
            accepts 3 0x030007 3 7 1 -> false

            curve 11 7 2 -> 7
            key 0 1
            sign 2 -> 65538              # r is 1
            verify 0 2 1 2 -> true
            verify 0 2 8 2 -> false
            verify 0 2 -6 2 -> false
            """);
    }

    private static void rangeOfS(Sentences s) {
        s.holds(TERMS, "r and s are from 1 to n - 1: s", """
            curve 11 2 7 -> 7
            base 0
            times 0 3 0
            verify 0 2 6 1 -> true
            verify 0 2 6 8 -> false
            verify 0 2 6 -6 -> false
            verify 0 2 6 6 -> true
            verify 0 2 6 -1 -> false
            verify 0 2 6 13 -> false
            verify 0 2 6 458753 -> false # 1 + 7 * 65536
            verify 0 2 6 0 -> false
            verify 0 2 6 7 -> false
            verify 0 2 6 -7 -> false
            verify 0 2 6 14 -> false
            verify 0 2 6 MAX -> false
            verify 0 2 6 MIN -> false
            accepts 3 0x030007 2 6 0 -> false
            accepts 3 0x030007 2 6 7 -> false

            curve 1021 0 10 -> 1069
            key 3 1068
            verify 3 MAX 227 802 -> true
            verify 3 MAX 227 1871 -> false
            verify 3 MAX 227 -267 -> false
            verify 3 MAX 227 0 -> false
            verify 3 MAX 227 1069 -> false
            """);
    }

    private static void numberT(Sentences s) {
        s.holds(TERMS, "t being the number from 1 to n - 1 for which s * t is 1 modulo n", """
            curve 11 2 7 -> 7
            base 0
            times 0 3 0
            verify 0 2 6 1 -> true
            verify 0 2 6 2 -> false
            verify 0 2 6 3 -> false
            verify 0 2 6 4 -> false
            verify 0 2 6 5 -> false
            verify 0 2 6 6 -> true
            verify 0 0 3 1 -> true
            verify 0 0 3 6 -> true
            verify 0 0 6 1 -> false
            verify 0 0 6 3 -> true
            verify 0 0 6 4 -> true

            curve 5 4 3 -> 3
            base 0
            verify 0 0 2 1 -> true
            verify 0 0 2 2 -> true
            verify 0 2 2 1 -> true
            verify 0 2 2 2 -> true
            verify 0 1 2 1 -> false
            verify 0 1 2 2 -> false
            """);
    }

    private static void sumIsNotInfinity(Sentences s) {
        // Q is 3 times BASE, so that e + 3 r = 0 modulo 19 gives INFINITY for every s.
        String start = "curve 17 2 2 -> 19\nbase 0\ntimes 0 3 0\n";
        s.holds(TERMS, "the point e * t times BASE plus r * t times Q is not INFINITY",
            start + Sentences.rows("verify 0 16 1 I -> false", 1, 18),
            start + Sentences.rows("verify 0 3 18 I -> false", 1, 18),
            start + Sentences.rows("verify 0 -48 16 I -> false", 1, 18),
            start + "code 0 short -> 0x030006\n" + Sentences.rows("accepts 3 0x030006 3 18 I -> false", 1, 18));
    }

    private static void xIsRModuloN(Sentences s) {
        s.holds(TERMS, "and its x is r modulo n", """
            curve 11 2 7 -> 7
            base 0
            times 0 3 0
            verify 0 1 3 2 -> true       # x is 10, above n
            verify 0 1 6 2 -> true       # x is 6
            verify 0 1 4 2 -> false
            verify 0 1 1 2 -> false
            verify 0 1 5 2 -> false
            verify 0 1 2 2 -> false

            curve 17 2 2 -> 19
            base 0
            verify 0 0 9 5 -> true       # e is 0, so that one addend is INFINITY
            verify 0 0 9 14 -> true
            verify 0 0 9 9 -> false
            verify 0 9 9 9 -> true       # both addends are the same point
            verify 0 9 9 10 -> true
            verify 0 9 9 5 -> false
            """);
    }

    private static void intsThatWrap(Sentences s) {
        s.holds(TERMS, "DRAWING uses ints that wrap: MIX(u, v) is w plus (w turned left by 7 bits)", """
            curve 1021 32 22 -> 967
            key 0 500
            sign -1 -> 39780705
            draws -> 1
            sign 0 -> 20447236
            sign 1 -> 590573
            sign 966 -> 39780705
            key 0 1
            sign 0 -> 20382391
            sign 1 -> 15859858
            sign 966 -> 328080
            key 0 966
            sign 0 -> 1048577
            sign 1 -> 26345876
            sign 966 -> 25231924
            curve 751 750 188 -> 727
            key 0 300
            sign 123456789012345 -> 34865577
            sign 123456789012346 -> 18350599
            sign 123456789012347 -> 2228477
            sign 123456789012348 -> 13304350
            """);
    }

    private static void startOfDrawing(Sentences s) {
        s.holds(TERMS, "K = 0, V = 1; K = MIX(K, V + d); V = MIX(K, V); K = MIX(K, V ^ e); V = MIX(K, V)", """
            curve 1021 0 10 -> 1069
            key 0 1
            sign 0 -> 37159587        # the least key and the least e
            draws -> 1
            sign 1068 -> 27984245
            draws -> 1
            key 0 1068
            sign 0 -> 19399691
            draws -> 1
            sign 1068 -> 35782920
            draws -> 1
            key 0 2
            sign 0 -> 49545724
            sign 1 -> 13173132
            """);
    }

    private static void leastMask(Sentences s) {
        // Behind # stand the numbers k that are drawn.
        s.holds(TERMS, "f is the least of 1, 3, 7, 15, .. that is at least n", """
            curve 5 4 3 -> 3         # f is 3
            key 0 2
            sign 1 -> 131073         # 3 0 0 2
            draws -> 4
            curve 5 2 1 -> 7         # f is 7
            key 0 4
            sign 5 -> 196614         # 7 4
            draws -> 2
            curve 23 22 4 -> 31      # f is 31
            key 0 1
            sign 6 -> 851993         # 31 2
            draws -> 2
            curve 107 92 39 -> 127   # f is 127
            key 0 2
            sign 16 -> 327718        # 127 121
            draws -> 2
            curve 5 3 3 -> 5         # f is 7
            key 0 3
            sign 0 -> 262148              # 0 3
            draws -> 2
            curve 7 0 3 -> 13        # f is 15
            key 0 1
            sign 6 -> 393222              # 15 2
            draws -> 2
            curve 11 10 3 -> 17      # f is 31
            key 0 1
            sign 6 -> 65548          # 31 2
            draws -> 2
            curve 227 92 217 -> 257  # f is 511
            key 0 4
            sign 139 -> 12976324     # 511 500 69
            draws -> 3
            curve 983 865 186 -> 1021 # f is 1023
            key 0 42
            sign 25 -> 54984746      # 1023 86
            draws -> 2
            curve 997 331 638 -> 1031 # f is 2047
            key 0 42
            sign 25 -> 61800729      # 2047 86
            draws -> 2
            """);
    }

    private static void drawnNumberInRange(Sentences s) {
        s.holds(TERMS, "If k is from 1 to n - 1", """
            curve 227 92 217 -> 257
            key 0 1
            sign 81 -> 131155        # 1
            draws -> 1
            sign 206 -> 131121       # 256
            draws -> 1
            sign 105 -> 6029344      # 0 223
            draws -> 2
            sign 160 -> 2425066      # 258 383 92
            draws -> 3
            key 0 2
            sign 41 -> 6422621       # 257 276 44
            draws -> 3
            curve 7 0 3 -> 13
            key 0 3
            sign 7 -> 65539          # 12
            draws -> 1
            key 0 1
            sign 2 -> 196609         # 14 5
            draws -> 2
            curve 5 3 2 -> 5
            key 0 3
            sign 3 -> 65537          # 1
            draws -> 1
            curve 5 2 1 -> 7
            key 0 3
            sign 0 -> 196611         # 0 3
            draws -> 2
            key 0 4
            sign 5 -> 196614         # 7 4
            draws -> 2
            """);
    }

    private static void xModuloN(Sentences s) {
        s.holds(TERMS, "r is the x of k times BASE, modulo n", """
            curve 11 2 7 -> 7
            key 0 1
            sign 0 -> 196610         # x is 10, above n
            draws -> 1
            key 0 3
            sign 2 -> 196610         # x is 7, which is n; then x is 10
            draws -> 2
            curve 1021 32 22 -> 967
            key 0 1
            sign 21 -> 852628         # x is 980, above n
            sign 42 -> 2752741         # x is 1009, above n
            """);
    }

    private static void dividedByK(Sentences s) {
        s.holds(TERMS, "s is (e + r * d) divided by k, modulo n", """
            curve 5 3 2 -> 5
            key 0 3
            sign 3 -> 65537          # k is 1
            key 0 4
            sign 3 -> 65538          # k is 1
            curve 7 0 3 -> 13
            key 0 3
            sign 7 -> 65539          # k is 12
            curve 1021 0 10 -> 1069
            key 0 1068
            sign 1068 -> 35782920
            sign 1067 -> 11993908
            sign 1066 -> 8192958
            """);
    }

    private static void neitherIsZero(Sentences s) {
        s.holds(TERMS, "if r and s are not 0, that is the signature", """
            curve 5 2 1 -> 7
            key 0 2
            sign 6 -> 65539          # r is 0, for x is 0
            draws -> 2
            curve 11 2 7 -> 7
            key 0 3
            sign 2 -> 196610         # r is 0, for x is n
            draws -> 2
            curve 5 3 2 -> 5
            key 0 1
            sign 3 -> 65540          # s is 0
            draws -> 2
            curve 5 2 4 -> 7
            key 0 5
            sign 1 -> 131073         # s is 0
            draws -> 2
            curve 11 2 4 -> 17
            key 0 4
            sign 0 -> 393222         # r and s are 0
            draws -> 2
            curve 5 2 1 -> 7
            key 0 1
            sign 6 -> 196612         # k is n, s is 0, s is 0, r is 0, r is 0
            draws -> 6
            """);
    }

    private static void lastDraw(Sentences s) {
        s.holds(TERMS, "Otherwise, if this was the 24th draw, signing FAILS", """
            curve 977 9 526 -> 1031
            key 0 15
            sign 526 -> 19005871     # at the 24th draw
            draws -> 24
            verify 0 526 290 431 -> true
            curve 571 377 233 -> 563
            key 0 411
            sign 106 -> Arithmetic   # a 25th draw would give 320, 32
            draws -> 24
            sign 107 -> 8978510
            curve 5 4 2 -> 3
            key 0 1
            sign 0 -> Arithmetic     # every x is n here
            sign 1 -> Arithmetic
            sign 2 -> Arithmetic
            key 0 2
            sign 0 -> Arithmetic
            sign 1 -> Arithmetic
            sign 2 -> Arithmetic
            """);
    }

    private static void nextDraw(Sentences s) {
        s.holds(TERMS, "else K = MIX(K, V + 1), V = MIX(K, V), and the next draw follows", """
            curve 29 4 20 -> 37
            key 0 20
            sign 77 -> 1245189       # 42 10
            draws -> 2
            sign -77 -> 1048599      # 59 39 38 17
            draws -> 4
            curve 11 2 7 -> 7
            key 0 4
            sign 4 -> 196614
            draws -> 18
            curve 1021 0 10 -> 1069
            key 0 1068
            sign MIN -> 17236069
            draws -> 3
            """);
    }
}
