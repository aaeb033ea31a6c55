/** The boundary cases of the Terms' RULES text. */
public final class RulesBoundaryTest {
    public static void main(String[] args) {
        semicolons();
        spaces();
        wordsOfRules();
        wordsThereBefore();
        oneOrMoreAnds();
        oneOrMoreRelations();
        operands();
        modulus();
        oneOrMoreRanges();
        secondNumber();
        digits();
        longestRowsOfLetters();
        largestTexts();
        Probe.finish();
    }

    private static void semicolons() {
        Probe.sentence("RULES text: rules with ; between them, or nothing but spaces");
        Probe.rulesFine("");
        Probe.rulesFine(" ");
        Probe.rulesFine(" ".repeat(120));
        Probe.rulesFine("one:n=1");
        Probe.rulesFine("one:n=1;two:n=2");
        Probe.rulesFine("zero:n=0;one:n=1;two:n=2;few:n=3;many:n=4");
        Probe.rulesError(";", 0);
        Probe.rulesError("  ;", 2);
        Probe.rulesError(";one:n=1", 0);
        Probe.rulesError("one:n=1;", 8);
        Probe.rulesError("one:n=1;  ", 10);
        Probe.rulesError("one:n=1;;two:n=2", 8);
        Probe.rulesError("one:n=1,two:n=2", 8);
        Probe p = new Probe();
        p.ruleText(false, "one:n=1").ruleText(false, "   ");
        Probe.due("category after spaces alone", p.category(false, 1, 0), "5");
    }

    private static void spaces() {
        Probe.sentence("Spaces may be anywhere between the parts");
        String tight = "one:n%10=1,3..4and i!=2or v=0;few:t=5";
        String wide = "  one  :  n  %  10  =  1  ,  3  ..  4  and  i  !=  2  or  v  =  0  ;"
            + "  few  :  t  =  5  ";
        String[] texts = {tight, wide};
        for (String text : texts) {
            Probe p = new Probe();
            p.ruleText(true, text);
            Probe.due("category of 13", p.category(true, 13, 0), "1");
            Probe.due("category of 2.5", p.category(true, 25, 1), "3");
            Probe.due("category of 2.4", p.category(true, 24, 1), "5");
        }
        Probe.rulesError("o ne:n=1", 0);
        Probe.rulesError("one:n=1 1", 8);
        Probe.rulesError("one:n! =1", 6);
        Probe.rulesError("one:n=1. .2", 8);
        Probe.rulesError("one:n=1 a nd n=2", 8);
    }

    private static void wordsOfRules() {
        Probe.sentence("A rule is a word zero, one, two, few or many "
            + "(an error at its first letter if it is another one");
        String[] words = {"zero", "one", "two", "few", "many"};
        for (int k = 0; k < words.length; k++) {
            Probe p = new Probe();
            p.ruleText(false, words[k] + ":n=1");
            Probe.due("category", p.category(false, 1, 0), String.valueOf(k));
            Probe.rulesError(" " + words[k] + "s:n=1", 1);
            Probe.rulesError(" " + words[k] + "a:n=1", 1);
            Probe.rulesError(" " + words[k] + "z:n=1", 1);
            Probe.rulesError(" " + words[k] + "`:n=1", 1 + words[k].length());
            Probe.rulesError(" " + words[k] + "{:n=1", 1 + words[k].length());
            Probe.rulesError(" " + words[k] + ";x", 1 + words[k].length());
            Probe.rulesError(" " + words[k].substring(1) + ":n=1", 1);
            Probe.rulesError(words[k].substring(0, words[k].length() - 1), 0);
        }
        String[] none = {"other", "n", "and", "or", "zeros", "onetwo", "zzzzzzzzzzzz", "aone"};
        for (String word : none) {
            Probe.rulesError("  " + word + " :n=1", 2);
            Probe.rulesError("one:n=1; " + word + ":n=1", 9);
        }
    }

    private static void wordsThereBefore() {
        Probe.sentence("an error at its first letter if it is another one, or was there before");
        String[] words = {"zero", "one", "two", "few", "many"};
        for (String word : words) {
            Probe.rulesError(word + ":n=1;" + word + ":n=2", word.length() + 5);
            Probe.rulesError(word + ":n=1 ;  " + word + " :n=2", word.length() + 8);
        }
        Probe.rulesError("zero:n=0;one:n=1;two:n=2;few:n=3;many:n=4;zero:n=5", 42);
        Probe.rulesError("zero:n=0;one:n=1;two:n=2;few:n=3;many:n=4;many:n=5", 42);
        // Rules that were read by an earlier call are not there before.
        Probe p = new Probe();
        p.ruleText(false, "one:n=1").ruleText(false, "one:n=2").ruleText(true, "one:n=3");
        Probe.due("category of 2", p.category(false, 2, 0), "1");
        p.text("two:n=1;two:n=1");
        p.rules(false);
        p.ruleText(false, "two:n=7");
        Probe.due("category of 7", p.category(false, 7, 0), "2");
    }

    private static void oneOrMoreAnds() {
        Probe.sentence("A condition is one or more ANDS with or between them");
        Probe.rulesError("one:", 4);
        Probe.rulesError("one:;", 4);
        Probe.rulesError("one:or n=1", 4);
        Probe.rulesError("one:n=1 or", 10);
        Probe.rulesError("one:n=1 or;", 10);
        Probe.rulesError("one:n=1 or or n=2", 11);
        Probe.rulesFine("one:n=1 or n=2");
        Probe.rulesFine("one:n=1 or n=2 or n=3 or n=4");
    }

    private static void oneOrMoreRelations() {
        Probe.sentence("an ands is one or more RELATIONS with and between them");
        Probe.rulesError("one:and n=1", 4);
        Probe.rulesError("one:n=1 and", 11);
        Probe.rulesError("one:n=1 and;", 11);
        Probe.rulesError("one:n=1 and and n=2", 12);
        Probe.rulesError("one:n=1 and or n=2", 12);
        Probe.rulesError("one:n=1 n=2", 8);
        Probe.rulesFine("one:n=1 and n=2");
        Probe.rulesFine("one:n=1 and n=2 and n=3 and n=4");
    }

    private static void operands() {
        Probe.sentence("A relation is an operand n, i, v, w, f or t");
        for (char c = 'a'; c <= 'z'; c++) {
            if ("nivwft".indexOf(c) >= 0) {
                Probe.rulesFine("one:" + c + "=1");
            } else {
                Probe.rulesError("one:" + c + "=1", 4);
            }
        }
        Probe.rulesError("one:=1", 4);
        Probe.rulesError("one:N=1", 4);
        Probe.rulesError("one:nn=1", 4);
        Probe.rulesError("one: fn=1", 5);
        Probe.rulesError("one:na=1", 4);
        Probe.rulesError("one:nz=1", 4);
        Probe.rulesError("one:n`=1", 5);
        Probe.rulesError("one:n{=1", 5);
    }

    private static void modulus() {
        Probe.sentence("then perhaps % and a number (an error at its first digit when it is 0)");
        Probe.rulesError("one:n%0=1", 6);
        Probe.rulesError("one:n%00=1", 6);
        Probe.rulesError("one:n %  0000 =1", 9);
        Probe.rulesError("one:n%0", 6);
        Probe.rulesError("one:n=1 and i%0=1", 14);
        Probe.rulesFine("one:n%1=0");
        Probe.rulesFine("one:n%0001=0");
        Probe.rulesFine("one:n%9999=0");
        Probe.rulesError("one:n%10000=0", 10);
        Probe.rulesError("one:n%=0", 6);
        Probe.rulesError("one:n%-1=0", 6);
        Probe.rulesError("one:n%2%2=0", 7);
    }

    private static void oneOrMoreRanges() {
        Probe.sentence("then = or != , then one or more ranges with , between them");
        Probe.rulesError("one:n", 5);
        Probe.rulesError("one:n1", 5);
        Probe.rulesError("one:n=", 6);
        Probe.rulesError("one:n=;", 6);
        Probe.rulesError("one:n=,1", 6);
        Probe.rulesError("one:n=1,", 8);
        Probe.rulesError("one:n=1,,2", 8);
        Probe.rulesError("one:n=1,;", 8);
        Probe.rulesError("one:n==1", 6);
        Probe.rulesError("one:n!!=1", 6);
        Probe.rulesFine("one:n=1");
        Probe.rulesFine("one:n!=1,2,3..4,5");
    }

    private static void secondNumber() {
        Probe.sentence("A range is a number, or two with .. between them "
            + "(an error at the first digit of the second one when it is less)");
        Probe.rulesError("one:n=2..1", 9);
        Probe.rulesError("one:n=1..0", 9);
        Probe.rulesError("one:n=10 ..  9", 13);
        Probe.rulesError("one:n=9999..9998", 12);
        Probe.rulesError("one:n=0010..0009", 12);
        Probe.rulesError("one:n=1,2..1,x", 11);
        Probe.rulesFine("one:n=1..1");
        Probe.rulesFine("one:n=0..0");
        Probe.rulesFine("one:n=1..2");
        Probe.rulesFine("one:n=9..0010");
        Probe.rulesFine("one:n=0..9999");
        Probe.rulesError("one:n=1..", 9);
        Probe.rulesError("one:n=1..2..3", 10);
        Probe.rulesError("one:n=..1", 6);
        Probe.rulesError("one:n=1.,x", 8);
        Probe.rulesError("one:n=1..,x", 9);
        Probe.rulesError("one:n=1.;x", 8);
        Probe.rulesError("one:n=1..;x", 9);
    }

    private static void digits() {
        Probe.sentence("A number is a longest row of digits, 1 to 4 of them (an error at the fifth)");
        Probe.rulesFine("one:n=0");
        Probe.rulesFine("one:n=9999");
        Probe.rulesError("one:n=10000", 10);
        Probe.rulesError("one:n=00001", 10);
        Probe.rulesError("one:n=4294967296", 10);
        Probe.rulesError("one:n=18446744073709551617", 10);
        Probe.rulesError("one:n=1/", 7);
        Probe.rulesError("one:n=1:", 7);
        Probe.rulesError("one:n=/", 6);
        Probe.rulesError("one:n=:", 6);
        Probe.rulesError("one:n=1,23456", 12);
        Probe.rulesFine("one:n=1..9999");
        Probe.rulesError("one:n=1..12345", 13);
        Probe.rulesError("one:n=12345..1", 10);
        Probe.rulesError("one:n%12345=1", 10);
        Probe.rulesError("one:n%10000000000=1", 10);
    }

    private static void longestRowsOfLetters() {
        Probe.sentence("Words are longest rows of letters a .. z; "
            + "one that may not stand where it does is an error at its first letter");
        Probe.rulesError("one:n=1 andn=2", 8);
        Probe.rulesError("one:n=1 orn=2", 8);
        Probe.rulesError("one:n=1 ora=2", 8);
        Probe.rulesError("one:n=1 orz=2", 8);
        Probe.rulesError("one:n=1 or`n=2", 10);
        Probe.rulesError("one:n=1 or{n=2", 10);
        Probe.rulesError("one:n=1 and`n=2", 11);
        Probe.rulesError("one:n=1 an n=2", 8);
        Probe.rulesError("one:n=1 andor n=2", 8);
        Probe.rulesError("one:n=1 o", 8);
        Probe.rulesError("one:n=1two:n=2", 7);
        Probe.rulesError("one two:n=2", 4);
        Probe.rulesError("one:n and=1", 6);
        Probe.rulesError("one:n=one", 6);
        Probe.rulesError("one:n=1..many", 9);
        Probe.rulesError("one:n%two=1", 6);
        Probe.rulesError("one:n=1 and two=2", 12);
        Probe.rulesFine("one:n=1and i=2or v=3");
    }

    /** As many relations and ranges as a text can have are all kept. */
    private static void largestTexts() {
        Probe.sentence("The TEXT has at most 120 of them");
        Probe p = new Probe();
        p.ruleText(false, "one:n=" + "1,".repeat(55) + "2,77");
        Probe.due("length of the ranges", p.object.length(), 120);
        Probe.due("the last range", p.category(false, 77, 0), "1");
        Probe.due("none of them", p.category(false, 7, 0), "5");
        p.ruleText(false, "two:i=1" + "or i=2".repeat(17) + "or i=88");
        Probe.due("length of the relations", p.object.length(), 116);
        Probe.due("the last relation", p.category(false, 88, 0), "2");
        Probe.due("none of them", p.category(false, 8, 0), "5");
    }
}
