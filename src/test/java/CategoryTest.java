/** Promise 11: category is that of a number by the rules. */
public final class CategoryTest {
    private static final int YES = 1;
    private static final int NO = 5;

    public static void main(String[] args) {
        wholeNumbers();
        operandN();
        otherOperands();
        remainders();
        conditions();
        orderOfCategories();
        wrongNumbers();
        Probe.finish();
    }

    private static void due(String condition, long mantissa, int scale, int want) {
        Probe p = new Probe();
        p.ruleText(false, "one:" + condition);
        String what = condition + " of " + mantissa + ", scale " + scale;
        Probe.due(what, p.category(false, mantissa, scale), String.valueOf(want));
        Probe.due(what + " for order", p.category(true, mantissa, scale), String.valueOf(NO));
    }

    private static void wholeNumbers() {
        due("n=1", 1, 0, YES);
        due("n=1", -1, 0, YES);
        due("n=1", 2, 0, NO);
        due("n=1,3..5", 3, 0, YES);
        due("n=1,3..5", 5, 0, YES);
        due("n=1,3..5", 6, 0, NO);
        due("n=1,3..5", 2, 0, NO);
        due("n!=1,3..5", 2, 0, YES);
        due("n!=1,3..5", 4, 0, NO);
        due("n=9999", 9999, 0, YES);
        due("n=0", 0, 0, YES);
        due("n!=0..9999", 1000000000000000L, 0, YES);
        due("n!=0..9999", -1000000000000000L, 0, YES);
    }

    private static void operandN() {
        due("n=1", 10, 1, YES);
        due("n=1", 1000000, 6, YES);
        due("n=1..2", 15, 1, NO);
        due("n!=1..2", 15, 1, YES);
        due("n=0", 0, 6, YES);
        due("n=0", 1, 6, NO);
        due("n=2", -200, 2, YES);
    }

    private static void otherOperands() {
        due("i=1", 19, 1, YES);
        due("i=1", -19, 1, YES);
        due("i=0", 999999, 6, YES);
        due("v=0", 1, 0, YES);
        due("v=2", 100, 2, YES);
        due("v=6", 0, 6, YES);
        due("w=0", 100, 2, YES);
        due("w=1", 150, 2, YES);
        due("w=2", 105, 2, YES);
        due("w=6", 1, 6, YES);
        due("w=0", 0, 6, YES);
        due("f=50", 150, 2, YES);
        due("f=5", 105, 2, YES);
        due("f=0", 7, 0, YES);
        due("f=5", -105, 2, YES);
        due("t=5", 150, 2, YES);
        due("t=5", 105, 2, YES);
        due("t=0", 100, 2, YES);
        due("t=50", 150, 2, NO);
        due("t=1", 1100000, 6, YES);
    }

    private static void remainders() {
        due("n%10=2..4", 22, 0, YES);
        due("n%10=2..4", 220, 1, YES);
        due("n%10=2..4", 225, 1, NO);
        due("n%10!=2..4", 225, 1, YES);
        due("n%10=0", 5, 1, NO);
        due("n%10=0", 100, 1, YES);
        due("i%100=11", 1119, 1, YES);
        due("f%10=3", 123, 2, YES);
        due("f%10=3", 23, 0, NO);
        due("t%10=2", 1120, 3, YES);
        due("v%2=1", 1, 3, YES);
        due("w%2=1", 1100, 3, YES);
        due("n%9999=1", 1000000000000000L, 0, 1000000000000000L % 9999 == 1 ? YES : NO);
        due("n%1=0", 1234, 0, YES);
        due("n%1=0", 1234, 1, NO);
        due("i%1=0", 1234, 1, YES);
        due("n%9999=9998", 9998000000L, 6, YES);
    }

    private static void conditions() {
        String both = "n=1 and v=0";
        due(both, 1, 0, YES);
        due(both, 10, 1, NO);
        String three = "n=1 or n=2 and v=0 or n=3";
        due(three, 10, 1, YES);
        due(three, 2, 0, YES);
        due(three, 20, 1, NO);
        due(three, 3, 0, YES);
        due(three, 4, 0, NO);
        String last = "n=1 and v=1 and w=1 or n=5 and v=0";
        due(last, 5, 0, YES);
        due(last, 50, 1, NO);
        due("n=1 and n=2", 1, 0, NO);
        due("n=1 and n=2", 2, 0, NO);
        due("n=1 and n=1 or n=2 and n=3", 2, 0, NO);
        due("n=2 and n=3 or n=2 and n=2", 2, 0, YES);
    }

    private static void orderOfCategories() {
        Probe p = new Probe();
        p.ruleText(true, "many:n=0..9;few:n=0..8;two:n=0..7;one:n=0..6;zero:n=0..5");
        int[] want = {0, 0, 0, 0, 0, 0, 1, 2, 3, 4, 5};
        for (int k = 0; k < want.length; k++) {
            Probe.due("category of " + k, p.category(true, k, 0), String.valueOf(want[k]));
            Probe.due("without rules", p.category(false, k, 0), "5");
        }
    }

    private static void wrongNumbers() {
        Probe p = new Probe();
        long most = 1000000000000000L;
        Probe.due("scale -1", p.category(false, 1, -1), Probe.ARGUMENT);
        Probe.due("scale 7", p.category(true, 1, 7), Probe.ARGUMENT);
        Probe.due("too large", p.category(false, most + 1, 0), Probe.ARGUMENT);
        Probe.due("too small", p.category(true, -most - 1, 0), Probe.ARGUMENT);
        Probe.due("the least long", p.category(true, Long.MIN_VALUE, 0), Probe.ARGUMENT);
        Probe.due("the largest", p.category(false, most, 6), "5");
        Probe.due("the smallest", p.category(true, -most, 0), "5");
    }
}
