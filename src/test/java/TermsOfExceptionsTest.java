/**
 * The end of the section "Terms", about calls that throw: each sentence, or part of one, has a test of its
 * own. How rows are read stands in Sentences.
 */
public final class TermsOfExceptionsTest {
    private static final String TERMS = "Terms";
    private static final String[] NO_REGISTERS = {"-1", "4", "5", "-4", "256", "65536", "MIN", "MAX"};

    private TermsOfExceptionsTest() {
    }

    public static void main(String[] args) {
        Sentences s = new Sentences();
        changesNothing(s);
        changesNothingWithoutCurve(s);
        changesNothingWithoutKey(s);
        changesNothingWhenSigningFails(s);
        firstListedGoesFirst(s);
        noCurve(s);
        noCurveAfterRefusal(s);
        noKey(s);
        noSuchRegister(s);
        s.finish();
    }

    private static void changesNothing(Sentences s) {
        String[] thrown = {
            "curve 17 0 0 -> IllegalArgument", "curve 5 2 0 -> IllegalArgument", "curve 1021 1 1 -> IllegalArgument",
            "curve 29 4 -9 -> IllegalArgument", "curve 1031 1 17 -> IllegalArgument",
            "load 0 1 1 -> IllegalArgument", "load 0 0 -7 -> IllegalArgument", "load 4 0 7 -> IndexOutOfBounds",
            "base 4 -> IndexOutOfBounds", "base -1 -> IndexOutOfBounds",
            "sum 4 0 1 -> IndexOutOfBounds", "sum 0 4 1 -> IndexOutOfBounds", "sum 0 1 4 -> IndexOutOfBounds",
            "times -1 2 1 -> IndexOutOfBounds", "times 0 2 -1 -> IndexOutOfBounds",
            "x 4 -> IndexOutOfBounds", "y -1 -> IndexOutOfBounds", "code 4 short -> IndexOutOfBounds",
            "code -1 plain -> IndexOutOfBounds",
            "decode 0 1 1 -> IllegalArgument", "decode 0 3 0x02001d -> IllegalArgument",
            "decode 0 5 0x0400000006 -> IllegalArgument", "decode 0 2 0 -> IllegalArgument",
            "decode 4 1 0 -> IndexOutOfBounds",
            "key 0 0 -> IllegalArgument", "key 0 37 -> IllegalArgument", "key 0 -20 -> IllegalArgument",
            "key 1 57 -> IllegalArgument", "key 4 5 -> IndexOutOfBounds",
            "verify 4 77 19 5 -> IndexOutOfBounds", "verify -1 77 19 5 -> IndexOutOfBounds"
        };
        String before = """
            curve 29 4 20 -> 37
            key 1 20
            base 2
            times 0 2 1
            sign -77 -> 1048599
            """;
        String after = """
            order -> 37
            registers -> 10,4 16,27 0,7 INFINITY
            draws -> 4
            verify 1 77 19 5 -> true
            accepts 3 0x030010 77 19 5 -> true
            sign 77 -> 1245189
            sum 3 0 2
            point 3 -> 13,23
            """;
        String[] runs = new String[thrown.length];
        for (int i = 0; i < runs.length; i++) {
            runs[i] = before + thrown[i] + "\n" + after;
        }
        s.holds(TERMS, "A call that throws changes nothing.", runs);
    }

    private static void changesNothingWithoutCurve(Sentences s) {
        s.holds(TERMS, "A call that throws changes nothing: before any curve", """
            curve 17 0 0 -> IllegalArgument
            curve 5 2 0 -> IllegalArgument
            load 0 0 6 -> IllegalState
            base 1 -> IllegalState
            sum 2 0 1 -> IllegalState
            times 3 2 0 -> IllegalState
            decode 0 1 0 -> IllegalState
            decode 0 3 0x020000 -> IllegalState
            key 1 3 -> IllegalState
            sign 4 -> IllegalState
            x 4 -> IndexOutOfBounds
            order -> 0
            draws -> 0
            registers -> INFINITY INFINITY INFINITY INFINITY
            curve 17 2 2 -> 19
            registers -> INFINITY INFINITY INFINITY INFINITY
            sign 4 -> IllegalState
            """);
    }

    private static void changesNothingWithoutKey(Sentences s) {
        s.holds(TERMS, "A call that throws changes nothing: sign without a key", """
            curve 29 4 20 -> 37
            key 1 20
            sign -77 -> 1048599
            curve 29 4 20 -> 37
            base 2
            sign 77 -> IllegalState
            key 1 0 -> IllegalArgument
            key 1 37 -> IllegalArgument
            key 4 20 -> IndexOutOfBounds
            sign 77 -> IllegalState
            order -> 37
            draws -> 4
            registers -> INFINITY INFINITY 0,7 INFINITY
            """);
    }

    private static void changesNothingWhenSigningFails(Sentences s) {
        s.holds(TERMS, "A call that throws changes nothing: signing that fails", """
            curve 29 4 20 -> 37
            key 1 20
            sign -77 -> 1048599
            curve 5 4 3 -> 3
            key 3 1
            times 1 2 3
            sign 1 -> Arithmetic
            order -> 3
            draws -> 4
            registers -> INFINITY 2,3 INFINITY 2,2
            sign 1 -> Arithmetic
            draws -> 4
            sign 0 -> 131074
            draws -> 1
            """);
    }

    private static void firstListedGoesFirst(Sentences s) {
        s.holds(TERMS, "Where a call may throw several, the one that is listed first in its heading and holds is thrown",
            """
            load 4 -1 -1 -> IllegalState
            load 0 -1 -1 -> IllegalState
            load 4 0 6 -> IllegalState
            base 4 -> IllegalState
            sum 4 4 4 -> IllegalState
            sum 4 0 0 -> IllegalState
            sum 0 -1 0 -> IllegalState
            sum 0 0 4 -> IllegalState
            times 4 1 0 -> IllegalState
            times 0 1 4 -> IllegalState
            decode 4 9 9 -> IllegalState
            decode 0 9 9 -> IllegalState
            decode 4 1 0 -> IllegalState
            key 4 0 -> IllegalState
            key 0 0 -> IllegalState
            key 4 1 -> IllegalState
            verify 4 1 1 1 -> IllegalState
            verify 4 1 0 0 -> IllegalState
            accepts 9 9 1 0 0 -> IllegalState
            curve 17 2 2 -> 19
            load 4 -1 -1 -> IndexOutOfBounds
            load -1 1 1 -> IndexOutOfBounds
            load 0 1 1 -> IllegalArgument
            decode 4 9 9 -> IndexOutOfBounds
            decode -1 3 0 -> IndexOutOfBounds
            decode 0 3 0 -> IllegalArgument
            key 4 0 -> IndexOutOfBounds
            key -1 19 -> IndexOutOfBounds
            key 0 19 -> IllegalArgument
            verify 4 1 0 0 -> IndexOutOfBounds
            curve 5 4 2 -> 3
            sign 0 -> IllegalState         # no key, and with one the signing would fail
            key 0 1
            sign 0 -> Arithmetic
            """);
    }

    private static void noCurve(Sentences s) {
        s.holds(TERMS, "IllegalStateException when no curve was taken yet", """
            load 0 0 6 -> IllegalState
            base 0 -> IllegalState
            sum 0 1 2 -> IllegalState
            times 0 1 2 -> IllegalState
            decode 0 1 0 -> IllegalState
            key 0 1 -> IllegalState
            sign 1 -> IllegalState
            verify 0 1 1 1 -> IllegalState
            accepts 1 0 1 1 1 -> IllegalState
            order -> 0
            draws -> 0
            x 0 -> -1
            y 0 -> -1
            code 0 short -> 0
            code 0 plain -> 0
            curve 17 2 2 -> 19
            load 0 0 6
            base 0
            sum 0 1 2
            times 0 1 2
            decode 0 1 0
            key 0 1
            sign 1 -> 589838
            verify 0 1 1 1 -> false
            accepts 1 0 1 1 1 -> false
            """);
    }

    private static void noCurveAfterRefusal(Sentences s) {
        s.holds(TERMS, "IllegalStateException when no curve was taken yet: a refused one was not taken", """
            curve 17 0 0 -> IllegalArgument
            curve 17 1 1 -> IllegalArgument
            curve 1031 1 17 -> IllegalArgument
            load 0 0 6 -> IllegalState
            base 0 -> IllegalState
            sum 0 1 2 -> IllegalState
            times 0 1 2 -> IllegalState
            decode 0 1 0 -> IllegalState
            key 0 1 -> IllegalState
            sign 1 -> IllegalState
            verify 0 1 1 1 -> IllegalState
            accepts 1 0 1 1 1 -> IllegalState

            curve 17 2 2 -> 19
            curve 17 0 0 -> IllegalArgument
            curve 1031 1 17 -> IllegalArgument
            load 0 0 6              # the curve before it is still taken
            base 0
            key 0 1
            """);
    }

    private static void noKey(Sentences s) {
        s.holds(TERMS, "(or, where it is said, no key)", """
            curve 17 2 2 -> 19
            load 0 0 6
            base 0
            sum 0 1 2
            times 0 1 2
            decode 0 1 0
            verify 0 1 1 1 -> false
            accepts 1 0 1 1 1 -> false
            sign 1 -> IllegalState
            key 0 1
            sign 1 -> 589838
            """);
    }

    private static void noSuchRegister(Sentences s) {
        String[] calls = {
            "load R 0 6", "base R", "sum R 0 1", "sum 1 R 0", "sum 1 0 R", "times R 2 0", "times 1 2 R", "x R", "y R",
            "code R short", "code R plain", "decode R 1 0", "key R 3", "verify R 1 9 1"
        };
        for (String call : calls) {
            StringBuilder run = new StringBuilder("curve 17 2 2 -> 19\nbase 0\nbase 3\n");
            for (String r : NO_REGISTERS) {
                run.append(call.replace("R", r) + " -> IndexOutOfBounds\n");
            }
            run.append("registers -> 0,6 INFINITY INFINITY 0,6\n");
            s.holds(TERMS, "IndexOutOfBoundsException when a number that is to be that of a register is not 0 .. 3: " + call,
                run.toString());
        }
        s.holds(TERMS, "when a number that is to be that of a register is not 0 .. 3: no other number is that of one", """
            curve 17 2 2 -> 19
            load 0 0 6
            load 3 0 6
            times 3 4 0
            times 0 -1 3
            sum 3 3 0
            decode 3 5 0x0400000006
            accepts 4 0 4 4 4 -> false
            verify 3 4 4 4 -> false
            key 3 4
            x 0 -> 7
            x 3 -> 7
            """);
    }
}
