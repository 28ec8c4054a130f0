import java.util.Arrays;

/**
 * Tests sentences of the document, each by runs of calls of its own. A run is text, a call to a row:
 *
 * <pre>
 *   curve 17 2 2 -> 19                 the call answers 19
 *   load 0 5 1                         the call answers nothing, and does not throw
 *   load 4 5 1 -> IndexOutOfBounds     the call throws the exception of that name
 *   point 0 -> 5,1                     x 0 answers 5 and y 0 answers 1; INFINITY means -1 and -1
 *   registers -> 5,1 INFINITY 6,3 0,6  the same of the registers 0 .. 3
 *   509 * sign 77 -> 1245189           the call is made 509 times
 * </pre>
 *
 * What stands behind # is a comment. The first row makes a new object, and so does each row behind an
 * empty one. MIN and MAX are the least and the greatest number of the parameter's type.
 */
final class Sentences {
    private static final int MOST_CALLS = 512;

    private PrimeCurveSigner signer;
    private int calls;
    private String sentence = "";
    private int tested = 0;
    private int wrong = 0;

    void holds(String section, String words, String... runs) {
        sentence = section + ", \"" + words + "\"";
        tested++;
        for (String run : runs) {
            begin();
            for (String row : run.split("\n")) {
                if (row.isBlank()) {
                    begin();
                } else {
                    make(row.split("#")[0].strip());
                }
            }
        }
    }

    /** The row once for each number from first to last, which stands where the row has the letter I. */
    static String rows(String row, int first, int last) {
        StringBuilder rows = new StringBuilder();
        for (int i = first; i <= last; i++) {
            rows.append(row.replaceAll("\\bI\\b", Integer.toString(i))).append('\n');
        }
        return rows.toString();
    }

    void finish() {
        System.out.println(tested + " sentences tested, " + wrong + " answers are not as due");
        if (wrong != 0 || tested == 0) {
            System.exit(1);
        }
    }

    private void begin() {
        signer = new PrimeCurveSigner();
        calls = 0;
    }

    private void make(String row) {
        if (row.isEmpty()) {
            return;
        }
        String[] sides = row.split(" -> ");
        String[] words = sides[0].strip().split(" +");
        String due = sides.length == 2 ? decimal(sides[1].strip()) : "done";
        boolean many = words.length > 1 && words[1].equals("*");
        int times = many ? Integer.parseInt(words[0]) : 1;
        String[] call = many ? Arrays.copyOfRange(words, 2, words.length) : words;
        for (int i = 0; i < times; i++) {
            report(row, answer(call), due);
        }
    }

    private void report(String row, String got, String due) {
        if (!got.equals(due)) {
            wrong++;
            System.out.println(sentence + ": " + row + ": answered " + got + " at call " + calls);
        }
        if (calls > MOST_CALLS) {
            throw new IllegalStateException("the test makes more calls than the document allows: " + sentence);
        }
    }

    private String answer(String[] call) {
        try {
            switch (call[0]) {
                case "point": return point(number(call[1]));
                case "registers": return point(0) + " " + point(1) + " " + point(2) + " " + point(3);
                default:
                    calls++;
                    return ask(call);
            }
        } catch (RuntimeException e) {
            return e.getClass().getSimpleName().replaceFirst("Exception$", "");
        }
    }

    private String point(int r) {
        calls += 2;
        int x = signer.x(r);
        int y = signer.y(r);
        return x == -1 && y == -1 ? "INFINITY" : x + "," + y;
    }

    private String ask(String[] call) {
        switch (call[0]) {
            case "curve": return "" + signer.curve(number(call[1]), number(call[2]), number(call[3]));
            case "order": return "" + signer.order();
            case "x": return "" + signer.x(number(call[1]));
            case "y": return "" + signer.y(number(call[1]));
            case "code": return "" + signer.code(number(call[1]), truth(call[2]));
            case "sign": return "" + signer.sign(longNumber(call[1]));
            case "draws": return "" + signer.draws();
            case "verify":
                return "" + signer.verify(number(call[1]), longNumber(call[2]), number(call[3]), number(call[4]));
            case "accepts":
                return "" + signer.accepts(number(call[1]), longNumber(call[2]), longNumber(call[3]),
                    number(call[4]), number(call[5]));
            default:
                tell(call);
                return "done";
        }
    }

    private void tell(String[] call) {
        switch (call[0]) {
            case "load": signer.load(number(call[1]), number(call[2]), number(call[3])); break;
            case "base": signer.base(number(call[1])); break;
            case "sum": signer.sum(number(call[1]), number(call[2]), number(call[3])); break;
            case "times": signer.times(number(call[1]), number(call[2]), number(call[3])); break;
            case "decode": signer.decode(number(call[1]), number(call[2]), longNumber(call[3])); break;
            case "key": signer.key(number(call[1]), number(call[2])); break;
            default: throw new AssertionError("no such call: " + call[0]);
        }
    }

    private static String decimal(String answer) {
        return answer.startsWith("0x") ? Long.decode(answer).toString() : answer;
    }

    private static boolean truth(String word) {
        if (!word.equals("short") && !word.equals("plain")) {
            throw new AssertionError("neither short nor plain: " + word);
        }
        return word.equals("short");
    }

    private static int number(String word) {
        switch (word) {
            case "MIN": return Integer.MIN_VALUE;
            case "MAX": return Integer.MAX_VALUE;
            default: return Integer.decode(word);
        }
    }

    private static long longNumber(String word) {
        switch (word) {
            case "MIN": return Long.MIN_VALUE;
            case "MAX": return Long.MAX_VALUE;
            default: return Long.decode(word);
        }
    }
}
