/** The boundary cases of the Terms VALUES, PLAIN and GROUPED. */
public final class ValuesBoundaryTest {
    private static final long MOST = 1000000000000000L;

    public static void main(String[] args) {
        scales();
        operandN();
        operandI();
        operandsVAndF();
        operandsWAndT();
        remainders();
        wholeNumberInARange();
        notInARange();
        andsAndConditions();
        firstCategory();
        otherCategory();
        plainNumbers();
        plainWords();
        grouped();
        Probe.finish();
    }

    private static void holds(String condition, long mantissa, int scale, boolean want) {
        Probe p = new Probe();
        p.ruleText(false, "few:" + condition);
        Probe.due(condition + " of " + mantissa + " with scale " + scale,
            p.category(false, mantissa, scale), want ? "3" : "5");
    }

    private static void scales() {
        Probe.sentence("A number has a MANTISSA and a SCALE (0 .. 6): "
            + "it is mantissa / 10^scale, shown with scale digits behind the point");
        String[] shown = {"1234567", "123456.7", "12345.67", "1234.567", "123.4567", "12.34567",
            "1.234567"};
        String[] zeros = {"0", "0.0", "0.00", "0.000", "0.0000", "0.00000", "0.000000"};
        Probe p = new Probe();
        p.message(0, false, "{n}");
        for (int scale = 0; scale <= 6; scale++) {
            p.number("n", 1234567, scale);
            p.written(shown[scale]);
            p.number("n", 0, scale);
            p.written(zeros[scale]);
        }
        Probe.due("scale -1", p.number("n", 1, -1), Probe.ARGUMENT);
        Probe.due("scale 7", p.number("n", 1, 7), Probe.ARGUMENT);
    }

    private static void operandN() {
        Probe.sentence("n is its absolute value");
        holds("n=0", 0, 0, true);
        holds("n=0", 0, 6, true);
        holds("n=1", -1, 0, true);
        holds("n=1", -1000000, 6, true);
        holds("n=1", -1000001, 6, false);
        holds("n=1", 1000001, 6, false);
        holds("n=0", -1, 6, false);
        holds("n%1000=0", -MOST, 0, true);
        holds("n%1000=0", MOST, 6, true);
        holds("n%1000=999", 1 - MOST, 0, true);
    }

    private static void operandI() {
        Probe.sentence("i the whole part of n");
        holds("i=0", 999999, 6, true);
        holds("i=1", 1000000, 6, true);
        holds("i=1", -1999999, 6, true);
        holds("i=9999", 9999, 0, true);
        holds("i=2", 1999999, 6, false);
        holds("i%9=1", MOST, 6, true);
    }

    private static void operandsVAndF() {
        Probe.sentence("v the scale; f the digits behind the point as a number");
        for (int scale = 0; scale <= 6; scale++) {
            holds("v=" + scale, 0, scale, true);
            holds("v=" + scale, -7000000, scale, true);
            holds("f=0", 0, scale, true);
        }
        holds("f=0", 7, 0, true);
        holds("f=7", 7, 0, false);
        holds("f=7", 7, 1, true);
        holds("f=7", -7, 6, true);
        holds("f=70", 70, 6, true);
        holds("f%1000=999", 5999999, 6, true);
        holds("f=9999", 99999, 4, true);
    }

    private static void operandsWAndT() {
        Probe.sentence("w and t like v and f without the zeros at their end");
        holds("w=0 and t=0", 0, 0, true);
        holds("w=0 and t=0", 0, 6, true);
        holds("w=0 and t=0", 5000000, 6, true);
        holds("w=0 and t=0", 10, 0, true);
        holds("w=6 and t=1", 1, 6, true);
        holds("w=5 and t=1", 10, 6, true);
        holds("w=1 and t=1", -100000, 6, true);
        holds("w=3 and t=101", 1010, 4, true);
        holds("w=2 and t=5", 1050, 3, true);
    }

    private static void remainders() {
        Probe.sentence("With % m an operand is what is left of it by m "
            + "(of n with what is behind the point)");
        holds("n%10=0", 10, 0, true);
        holds("n%10=9", 9, 0, true);
        holds("n%10=9", -19, 0, true);
        holds("n%10=0", 101, 1, false);
        holds("n%10=1", 110, 1, true);
        holds("n%1=0", 5, 0, true);
        holds("n%1=0", 51, 1, false);
        holds("i%1=0", 51, 1, true);
        holds("n%9999=0", 9999, 0, true);
        holds("n%9999=9998", 9998, 0, true);
        holds("n%9999=1", 10000, 0, true);
        holds("v%6=0", 1, 6, true);
        holds("w%6=5", 10, 6, true);
        holds("f%100=99", 199, 2, true);
        holds("t%10=0", 1, 0, true);
    }

    private static void wholeNumberInARange() {
        Probe.sentence("A relation with = holds when that is a whole number in one of its ranges");
        String condition = "n=2,4..6,8..8,9999";
        boolean[] want = {false, false, true, false, true, true, true, false, true, false};
        for (int k = 0; k < want.length; k++) {
            holds(condition, k, 0, want[k]);
            holds(condition, -k * 1000000L, 6, want[k]);
            holds(condition, k * 10 + 5, 1, false);
        }
        holds(condition, 9998, 0, false);
        holds(condition, 9999, 0, true);
        holds(condition, 10000, 0, false);
        holds("n=0..9999", MOST, 0, false);
        // These would be in a range if their bits beyond the 32nd were lost.
        holds("n=1", 4294967297L, 0, false);
        holds("n=0", 4294967296L, 0, false);
        holds("i=1", 42949672971L, 1, false);
    }

    private static void notInARange() {
        Probe.sentence("with != when it is not");
        holds("n!=4..6", 3, 0, true);
        holds("n!=4..6", 4, 0, false);
        holds("n!=4..6", 6, 0, false);
        holds("n!=4..6", 7, 0, true);
        holds("n!=4..6", 45, 1, true);
        holds("n!=1,3", 2, 0, true);
        holds("n!=1,3", 1, 0, false);
        holds("n!=1,3", 3, 0, false);
        holds("n%10!=1", 11, 1, true);
        holds("n%10!=1", 11, 0, false);
    }

    private static void andsAndConditions() {
        Probe.sentence("An ands holds when all its relations do, "
            + "a condition when one of its ands does");
        String condition = "i=1 and v=0 and n=1 or i=2 and v=1 or i=3";
        holds(condition, 1, 0, true);
        holds(condition, 10, 1, false);
        holds(condition, 20, 1, true);
        holds(condition, 2, 0, false);
        holds(condition, 3, 0, true);
        holds(condition, 30, 1, true);
        holds(condition, 4, 0, false);
        holds("i=1 and i=2 or i=1 and i=1", 1, 0, true);
        holds("i=1 and i=1 or i=1 and i=2", 1, 0, true);
        holds("i=1 and i=2 or i=2 and i=1", 1, 0, false);
    }

    private static void firstCategory() {
        Probe.sentence("The CATEGORY of a number is the first of zero (0), one (1), two (2), "
            + "few (3), many (4) that has a rule whose condition holds");
        String[] words = {"zero", "one", "two", "few", "many"};
        for (int first = 0; first < 5; first++) {
            // The text has them from the last to the first.
            StringBuilder rules = new StringBuilder();
            for (int k = 4; k >= first; k--) {
                rules.append(k < 4 ? ";" : "").append(words[k]).append(":n=1");
            }
            Probe p = new Probe();
            p.ruleText(true, rules.toString());
            Probe.due("category by " + rules, p.category(true, 1, 0), String.valueOf(first));
            Probe.due("category of 2 by " + rules, p.category(true, 2, 0), "5");
        }
    }

    private static void otherCategory() {
        Probe.sentence("else other (5)");
        Probe p = new Probe();
        Probe.due("without rules", p.category(false, 1, 0), "5");
        p.ruleText(false, "zero:n=0;one:n=1;two:n=2;few:n=3;many:n=4");
        for (int k = 0; k <= 6; k++) {
            Probe.due("category of " + k, p.category(false, k, 0), String.valueOf(Math.min(k, 5)));
        }
        Probe.due("category of 1.5", p.category(false, 15, 1), "5");
    }

    private static void written(String pattern, long mantissa, int scale, String want) {
        Probe p = new Probe();
        p.number("n", mantissa, scale);
        p.message(0, false, pattern);
        p.written(want);
    }

    private static void plainNumbers() {
        Probe.sentence("of a number - if it is negative, the whole part of n, "
            + "and if the scale is not 0, a point and scale digits");
        written("{n}", 0, 0, "0");
        written("{n}", 0, 1, "0.0");
        written("{n}", -1, 0, "-1");
        written("{n}", -1, 6, "-0.000001");
        written("{n}", 1, 6, "0.000001");
        written("{n}", 999999, 6, "0.999999");
        written("{n}", 1000000, 6, "1.000000");
        written("{n}", -1000000, 6, "-1.000000");
        written("{n}", MOST, 0, "1000000000000000");
        written("{n}", -MOST, 0, "-1000000000000000");
        written("{n}", MOST, 6, "1000000000.000000");
        written("{n}", 1 - MOST, 6, "-999999999.999999");
        written("{n}", 4294967296L, 0, "4294967296");
    }

    private static void plainWords() {
        Probe.sentence("PLAIN: of a word its characters");
        Probe p = new Probe();
        p.message(0, false, "<{w}>");
        String[] words = {"", " ", "~", "a", "ab", "abc", "abcd", "    ", "{w}", "''", "#", "0.0"};
        for (String word : words) {
            p.word("w", word);
            p.written("<" + word + ">");
        }
    }

    private static void grouped() {
        Probe.sentence("GROUPED: the same with a comma before each three digits of the whole part, "
            + "counted from its end, that have digits before them");
        written("{n,number}", 0, 0, "0");
        written("{n,number}", 99, 0, "99");
        written("{n,number}", 999, 0, "999");
        written("{n,number}", 1000, 0, "1,000");
        written("{n,number}", -999, 0, "-999");
        written("{n,number}", -1000, 0, "-1,000");
        written("{n,number}", 99999, 0, "99,999");
        written("{n,number}", 999999, 0, "999,999");
        written("{n,number}", -999999, 0, "-999,999");
        written("{n,number}", 1000000, 0, "1,000,000");
        written("{n,number}", 1000001, 0, "1,000,001");
        written("{n,number}", 999999, 6, "0.999999");
        written("{n,number}", 999999999, 6, "999.999999");
        written("{n,number}", 1000000000, 6, "1,000.000000");
        written("{n,number}", 1234567, 3, "1,234.567");
        written("{n,number}", MOST, 0, "1,000,000,000,000,000");
        written("{n,number}", -MOST, 0, "-1,000,000,000,000,000");
        written("{n,number}", 1 - MOST, 1, "-99,999,999,999,999.9");
        written("{n,number}", MOST - 1, 0, "999,999,999,999,999");
    }
}
