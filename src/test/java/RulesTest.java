/** Promise 6: rules makes the text a set of rules, or tells the place of its error. */
public final class RulesTest {
    public static void main(String[] args) {
        fineTexts();
        wordsOfRules();
        operands();
        signs();
        ranges();
        joins();
        sets();
        failureChangesNothing();
        nothingOfEarlierRules();
        Probe.finish();
    }

    private static void fine(String text) {
        Probe.rulesFine(text);
    }

    private static void error(String text, int place) {
        Probe.rulesError(text, place);
    }

    private static void fineTexts() {
        fine("");
        fine("   ");
        fine("one:n=1");
        fine("many:n=1;zero:i=2;two:v=3;few:w=4;one:f=5");
        fine("  one  :  n  %  10  !=  1  ,  2  ..  3  and  t = 1 or w=0 ;  two : i=2  ");
        fine("one:n=1and i=2or v=3;two:n=2");
        fine("one:n=0000..9999");
        fine("one:n=5..5");
        fine("one:n=" + "1,".repeat(56) + "12");
        fine("one:n=1" + "or i=2".repeat(18));
    }

    private static void wordsOfRules() {
        error("other:n=1", 0);
        error("  ones:n=1", 2);
        error("on", 0);
        error("onetwo:n=1", 0);
        error("zerozerozerozero:n=1", 0);
        error("One:n=1", 0);
        error("1:n=1", 0);
        error(";", 0);
        error("  ;", 2);
        error(":n=1", 0);
        error("one:n=1;one:n=2", 8);
        error("one:n=1; two:n=2; one :n=2", 18);
        error("one:n=1;", 8);
        error("one:n=1; ", 9);
        error("one:n=1;;two:n=2", 8);
        error("one", 3);
        error("one ", 4);
        error("one n=1", 4);
        error("one=1", 3);
        error("one:", 4);
        error("one: ", 5);
        error("one:;", 4);
        error("one:n=1 two:n=2", 8);
    }

    private static void operands() {
        error("one:x=1", 4);
        error("one:nn=1", 4);
        error("one: ni=1", 5);
        error("one:N=1", 4);
        error("one:1=1", 4);
        error("one:and=1", 4);
        error("one:n", 5);
        error("one:n%", 6);
        error("one:n%=1", 6);
        error("one:n%0=1", 6);
        error("one:n% 0000=1", 7);
        error("one:n%10000=1", 10);
        error("one:n%00000=1", 10);
        error("one:n%12345", 10);
        error("one:n%10%10=1", 8);
        error("one:n%10", 8);
        error("one:n%a=1", 6);
        error("one:n 1", 6);
        error("one:n mod 10=1", 6);
    }

    private static void signs() {
        error("one:n!1", 6);
        error("one:n! =1", 6);
        error("one:n!", 6);
        error("one:n==1", 6);
        error("one:n=!1", 6);
        error("one:n<1", 5);
        error("one:n=", 6);
        error("one:n= ", 7);
        error("one:n!=", 7);
    }

    private static void ranges() {
        error("one:n=a", 6);
        error("one:n=12345", 10);
        error("one:n=-1", 6);
        error("one:n=1,", 8);
        error("one:n=1,,2", 8);
        error("one:n=,1", 6);
        error("one:n=1.", 8);
        error("one:n=1.5", 8);
        error("one:n=1. .2", 8);
        error("one:n=1..", 9);
        error("one:n=1...2", 9);
        error("one:n=1..a", 9);
        error("one:n=1..2..3", 10);
        error("one:n=2..1", 9);
        error("one:n=10 .. 0009", 12);
        error("one:n=9999..12345", 16);
        error("one:n=1 2", 8);
        error("one:n=1,3..2,x", 11);
        error("one:n=1;two:n=3..1", 17);
    }

    private static void joins() {
        error("one:n=1 and", 11);
        error("one:n=1 or ", 11);
        error("one:n=1 and;", 11);
        error("one:n=1 and or n=2", 12);
        error("one:n=1 or or n=2", 11);
        error("one:n=1 andi=2", 8);
        error("one:n=1 nor i=2", 8);
        error("one:n=1 x", 8);
        error("one:n=1 AND i=2", 8);
        error("one:n=1,and i=2", 8);
        error("one:n=1:", 7);
        error("one:and n=1", 4);
    }

    private static void sets() {
        Probe p = new Probe();
        p.ruleText(false, "one:n=1").ruleText(true, "two:n=1");
        Probe.due("for counting", p.category(false, 1, 0), "1");
        Probe.due("for order", p.category(true, 1, 0), "2");
        p.ruleText(false, "few:n=1");
        Probe.due("for counting anew", p.category(false, 1, 0), "3");
        Probe.due("for order as before", p.category(true, 1, 0), "2");
        p.ruleText(true, "  ");
        Probe.due("for order, none", p.category(true, 1, 0), "5");
        Probe.due("for counting as before", p.category(false, 1, 0), "3");
        Probe.due("it stays the text", p.object.length(), 2);
    }

    private static void nothingOfEarlierRules() {
        Probe p = new Probe();
        for (int round = 0; round < 5; round++) {
            p.ruleText(false, "one:n=1" + "or i=2".repeat(18));
            Probe.due("category of 2", p.category(false, 2, 0), "1");
            p.ruleText(false, "two:n=" + "1,".repeat(56) + "12");
            Probe.due("category of 12", p.category(false, 12, 0), "2");
            Probe.due("category of 2", p.category(false, 2, 0), "5");
            p.ruleText(false, "zero:n=3;few:n!=3 and n!=7");
            Probe.due("category of 3", p.category(false, 3, 0), "0");
            Probe.due("category of 7", p.category(false, 7, 0), "5");
            Probe.due("category of 1", p.category(false, 1, 0), "3");
        }
    }

    private static void failureChangesNothing() {
        Probe p = new Probe();
        p.ruleText(false, "one:n=1;two:n=2").ruleText(true, "few:n=1");
        p.text("many:n=1;zero:n=2 zero");
        Probe.due("rules", p.rules(false), Probe.ARGUMENT);
        Probe.due("rules for order", p.rules(true), Probe.ARGUMENT);
        Probe.due("category", p.category(false, 1, 0), "1");
        Probe.due("category of 2", p.category(false, 2, 0), "2");
        Probe.due("category for order", p.category(true, 1, 0), "3");
        Probe.due("length", p.object.length(), 22);
    }
}
