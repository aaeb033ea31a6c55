/** The boundary cases of the Terms WRITING and IT FAILS. */
public final class WritingBoundaryTest {
    private static final long MOST = 1000000000000000L;
    // Writes 159 characters with n the largest number and w a word of four.
    private static final String ALMOST_FULL = "{n}".repeat(9) + "{w}{w}{w}xyz";

    public static void main(String[] args) {
        partsInOrder();
        hex();
        upper();
        select();
        selectOfANumber();
        exactBranch();
        exactBranchIsOfX();
        categoryBranch();
        categoryIsOfY();
        otherBranch();
        sign();
        missing();
        numberNeeded();
        wholeNumberForHex();
        character161();
        character161OfAValue();
        firstInOrder();
        Probe.finish();
    }

    private static Probe numberAndWord(long mantissa, int scale, String word) {
        Probe p = new Probe();
        p.number("n", mantissa, scale);
        p.word("w", word);
        return p;
    }

    private static void written(String pattern, long mantissa, int scale, String want) {
        Probe p = numberAndWord(mantissa, scale, "abc");
        p.message(0, false, pattern);
        p.written(want);
    }

    private static void partsInOrder() {
        Probe.sentence("WRITING a message writes its parts one after the other");
        written("", 1, 0, "");
        written("a", 1, 0, "a");
        written("{n}", 1, 0, "1");
        written("a{n}b{w}c{n,plural,other{d#e}}f", 1, 0, "a1babccd1ef");
        written("{n}".repeat(40), 1, 0, "1".repeat(40));
    }

    private static void hex() {
        Probe.sentence("hex the sign and the hexadecimal digits 0 .. 9 a .. f "
            + "of a number with scale 0");
        String[] digits = {"0", "1", "2", "3", "4", "5", "6", "7", "8", "9", "a", "b", "c", "d", "e",
            "f", "10", "11"};
        for (int k = 0; k < digits.length; k++) {
            written("{n,hex}", k, 0, digits[k]);
        }
        written("{n,hex}", -1, 0, "-1");
        written("{n,hex}", -16, 0, "-10");
        written("{n,hex}", 0xffffffffL, 0, "ffffffff");
        written("{n,hex}", 0x100000000L, 0, "100000000");
        written("{n,hex}", -0x80000000L, 0, "-80000000");
        written("{n,hex}", MOST, 0, "38d7ea4c68000");
        written("{n,hex}", -MOST, 0, "-38d7ea4c68000");
    }

    private static void upper() {
        Probe.sentence("upper plain, with A .. Z for a .. z");
        Probe p = new Probe();
        p.message(0, false, "{w,upper}");
        String[][] cases = {{"", ""}, {"a", "A"}, {"z", "Z"}, {"`az{", "`AZ{"}, {"@AZ[", "@AZ["},
            {"m M~", "M M~"}, {"nope", "NOPE"}};
        for (String[] row : cases) {
            p.word("w", row[0]);
            p.written(row[1]);
        }
        p.number("w", -12345, 1);
        p.written("-1234.5");
    }

    private static void select() {
        Probe.sentence("select writes the message of the first branch whose selector is what the "
            + "value is plain, else that of the first one with other");
        Probe p = new Probe();
        p.message(0, false, "{w,select,ab{1}ab{2}a{3}other{4}abcd{5}other{6}b{}}");
        String[][] cases = {{"ab", "1"}, {"a", "3"}, {"abcd", "5"}, {"b", ""}, {"abc", "4"},
            {"", "4"}, {" ", "4"}, {"ab ", "4"}, {" ab", "4"}, {"AB", "4"}, {"bcd", "4"}};
        for (String[] row : cases) {
            p.word("w", row[0]);
            p.written(row[1]);
        }
        // A selector of more than four letters is no word, nor is the end of it.
        p.message(0, false, "{w,select,xabcd{1}other{2}}");
        p.word("w", "abcd");
        p.written("2");
    }

    private static void selectOfANumber() {
        Probe.sentence("whose selector is what the value is plain, "
            + "else that of the first one with other");
        written("{n,select,one{1}zero{2}other{3}other{4}}", 1, 0, "3");
        written("{n,select,other{3}}", 0, 0, "3");
        // The bytes of this number are those of the selector.
        written("{n,select,a{1}other{2}}", 'a', 0, "2");
        written("{n,select,abcd{1}other{2}}", Probe.bytes("abcd"), 0, "2");
    }

    private static void exactBranch() {
        Probe.sentence("the message of the first branch with = and a number equal to x");
        String pattern = "{n,plural,other{o}=1{a}=1{b}=0{z}=9999{m}=0002{c}=2{d}}";
        written(pattern, 1, 0, "a");
        written(pattern, 0, 0, "z");
        written(pattern, 0, 6, "z");
        written(pattern, 2, 0, "c");
        written(pattern, 9999, 0, "m");
        written(pattern, 9999000000L, 6, "m");
        written(pattern, 10, 1, "a");
        written(pattern, 1000000, 6, "a");
        written(pattern, 1000001, 6, "o");
        written(pattern, 11, 1, "o");
        written(pattern, -1, 0, "o");
        written(pattern, -2, 0, "o");
        written(pattern, 10000, 0, "o");
        written(pattern, 4294967297L, 0, "o");
        written(pattern, MOST, 0, "o");
    }

    private static void exactBranchIsOfX() {
        Probe.sentence("with x the value and y = x - offset");
        String pattern = "{n,plural,offset:2 =1{x #}=0{z #}other{o #}}";
        written(pattern, 1, 0, "x -1");
        written(pattern, 3, 0, "o 1");
        written(pattern, 2, 0, "o 0");
        written(pattern, 0, 0, "z -2");
    }

    private static Probe withRules(String pattern) {
        Probe p = new Probe();
        p.ruleText(false, "one:n=1;few:n=3;many:n=4").ruleText(true, "two:n=1;zero:n=3;many:n=5");
        p.message(0, false, pattern);
        return p;
    }

    private static void writtenWithRules(String pattern, long mantissa, int scale, String want) {
        Probe p = withRules(pattern);
        p.number("n", mantissa, scale);
        p.written(want);
    }

    private static void categoryBranch() {
        Probe.sentence("else of the first one with the name of y's category "
            + "by the rules 0 (plural) or 1 (selectordinal)");
        String branches = "other{o}one{1}one{x}few{f}two{2}zero{z}many{m}=7{7}other{p}}";
        String[] ofPlural = {"o", "1", "o", "f", "m", "o", "o", "7"};
        String[] ofOrdinal = {"o", "2", "o", "z", "o", "m", "o", "7"};
        for (int k = 0; k < ofPlural.length; k++) {
            writtenWithRules("{n,plural," + branches, k, 0, ofPlural[k]);
            writtenWithRules("{n,selectordinal," + branches, k, 0, ofOrdinal[k]);
        }
        writtenWithRules("{n,plural," + branches, -1, 0, "1");
        writtenWithRules("{n,plural," + branches, 10, 1, "1");
        writtenWithRules("{n,plural,one{c}=1{e}other{o}}", 1, 0, "e");
    }

    private static void categoryIsOfY() {
        Probe.sentence("y = x - offset (with the scale of x)");
        String pattern = "{n,plural,offset:2 one{1 #}few{f #}other{o #}}";
        writtenWithRules(pattern, 3, 0, "1 1");
        writtenWithRules(pattern, 1, 0, "1 -1");
        writtenWithRules(pattern, -1, 0, "f -3");
        writtenWithRules(pattern, 5, 0, "f 3");
        writtenWithRules(pattern, 300, 2, "1 1.00");
        writtenWithRules(pattern, 2, 0, "o 0");
        writtenWithRules(pattern, 2000000, 6, "o 0.000000");
        writtenWithRules(pattern, 1999999, 6, "o -0.000001");
        writtenWithRules("{n,plural,offset:99 one{1 #}other{o #}}", 98, 0, "1 -1");
        writtenWithRules("{n,selectordinal,offset:99 two{2 #}other{o #}}", 100, 0, "2 1");
    }

    private static void otherBranch() {
        Probe.sentence("else of the first one with other");
        writtenWithRules("{n,plural,other{o}other{p}}", 1, 0, "o");
        writtenWithRules("{n,plural,two{2}other{o}=2{x}other{p}}", 1, 0, "o");
        writtenWithRules("{n,plural,one{1}other{o}}", 2, 0, "o");
        writtenWithRules("{n,selectordinal,one{1}other{}}", 1, 0, "");
    }

    private static void sign() {
        Probe.sentence("In it a sign writes y grouped");
        written("{n,plural,other{#}}", 0, 0, "0");
        written("{n,plural,other{#}}", 999, 0, "999");
        written("{n,plural,other{#}}", 1000, 0, "1,000");
        written("{n,plural,offset:1 other{#}}", 1000, 0, "999");
        written("{n,plural,offset:1 other{#}}", 0, 0, "-1");
        written("{n,plural,offset:99 other{#}}", -901, 0, "-1,000");
        written("{n,plural,offset:99 other{#}}", -MOST, 0, "-1,000,000,000,000,099");
        written("{n,plural,offset:99 other{#}}", -MOST, 6, "-1,000,000,099.000000");
        written("{n,plural,offset:99 other{#}}", MOST, 0, "999,999,999,999,901");
        written("{n,selectordinal,other{#}}", 1234567, 3, "1,234.567");
        written("{n,plural,=1{#}other{}}", 1, 0, "1");
    }

    private static void fails(String pattern, String want) {
        Probe p = numberAndWord(15, 1, "abc");
        p.number("i", 15, 0);
        p.message(0, false, pattern);
        Probe.due("format of " + pattern, p.format(0, false), want);
        Probe.due("size after it", p.object.size(), 0);
    }

    private static void missing() {
        Probe.sentence("IT FAILS with NoSuchElementException when there is no value under a name");
        String[] behind = {"}", ",number}", ",hex}", ",upper}", ",select,other{}}",
            ",plural,other{}}", ",selectordinal,other{}}"};
        for (String rest : behind) {
            fails("{x" + rest, Probe.ELEMENT);
            fails("{nn" + rest, Probe.ELEMENT);
            fails("{w,select,other{{x" + rest + "}}", Probe.ELEMENT);
        }
        written("{w,select,abc{ok}other{{x}}}", 1, 0, "ok");
    }

    private static void numberNeeded() {
        Probe.sentence("with IllegalStateException when a number is needed "
            + "(number, hex, plural, selectordinal) and it is a word");
        fails("{w,number}", Probe.STATE);
        fails("{w,hex}", Probe.STATE);
        fails("{w,plural,other{}}", Probe.STATE);
        fails("{w,selectordinal,other{}}", Probe.STATE);
        fails("{n,plural,other{{w,number}}}", Probe.STATE);
        Probe p = new Probe();
        p.word("w", "12");
        p.message(0, false, "{w,number}");
        Probe.due("a word of digits", p.format(0, false), Probe.STATE);
        p.word("w", "");
        Probe.due("a word of nothing", p.format(0, false), Probe.STATE);
        p.message(0, false, "{w}{w,upper}{w,select,other{s}}");
        p.written("s");
    }

    private static void wholeNumberForHex() {
        Probe.sentence("or for hex a number whose scale is not 0");
        Probe p = new Probe();
        p.message(0, false, "{n,hex}");
        for (int scale = 1; scale <= 6; scale++) {
            p.number("n", 0, scale);
            Probe.due("hex of scale " + scale, p.format(0, false), Probe.STATE);
            p.number("n", 1000000, scale);
            Probe.due("hex of scale " + scale, p.format(0, false), Probe.STATE);
        }
        p.number("n", 10, 0);
        p.written("a");
    }

    private static void ofFull(String rest, String strict, String lenient) {
        Probe p = numberAndWord(MOST, 0, "abcd");
        p.message(0, false, ALMOST_FULL + rest);
        Probe.due("format of " + rest, p.format(0, false), strict);
        Probe.due("lenient format of " + rest, p.format(0, true), lenient);
    }

    private static void character161() {
        Probe.sentence("with UnsupportedOperationException when a character would be the 161st "
            + "of the result");
        String full = Probe.UNSUPPORTED;
        ofFull("", "159", "159");
        ofFull("1", "160", "160");
        ofFull("12", full, full);
        ofFull("''", "160", "160");
        ofFull("''''", full, full);
        ofFull("'{'", "160", "160");
        ofFull("'{}'", full, full);
        ofFull("{w}", full, full);
        ofFull("{w,upper}", full, full);
        ofFull("{n}", full, full);
        ofFull("{n,number}", full, full);
        ofFull("{n,hex}", full, full);
        ofFull("{n,plural,other{#}}", full, full);
        ofFull("{n,plural,other{1}}", "160", "160");
        ofFull("{w,select,other{12}}", full, full);
        ofFull("{w,select,other{}}1", "160", "160");
        ofFull("1{w,select,other{}}", "160", "160");
    }

    /** What writes two characters, where there is room for one, and where there is for two. */
    private static void oneTooLong(String value, long mantissa) {
        Probe p = numberAndWord(MOST, 0, "abcd");
        p.number("m", mantissa, 0);
        p.word("u", "ab");
        p.message(0, false, ALMOST_FULL + value);
        Probe.due("format of " + value, p.format(0, false), Probe.UNSUPPORTED);
        p.message(0, false, ALMOST_FULL.substring(0, ALMOST_FULL.length() - 1) + value);
        Probe.due("format of " + value + " with room for two", p.format(0, false), "160");
    }

    private static void character161OfAValue() {
        Probe.sentence("with UnsupportedOperationException when a character would be the 161st "
            + "of the result");
        oneTooLong("{u}", 0);
        oneTooLong("{u,upper}", 0);
        oneTooLong("{m}", -1);
        oneTooLong("{m}", 10);
        oneTooLong("{m,hex}", 16);
        oneTooLong("{m,hex}", -1);
        oneTooLong("{m,number}", -1);
        oneTooLong("{m,plural,other{#}}", 12);
        oneTooLong("{m,plural,other{#}}", -1);
    }

    private static void firstInOrder() {
        Probe.sentence("What is first in the order of writing counts");
        fails("{x}{w,hex}", Probe.ELEMENT);
        fails("{w,hex}{x}", Probe.STATE);
        fails("{w,select,other{{x}{w,hex}}}", Probe.ELEMENT);
        fails("{w,select,other{{w,hex}{x}}}", Probe.STATE);
        fails("{x,plural,other{{w,hex}}}", Probe.ELEMENT);
        fails("{w,plural,other{{x}}}", Probe.STATE);
        ofFull("{x}{w}", Probe.ELEMENT, Probe.UNSUPPORTED);
        ofFull("{w}{x}", Probe.UNSUPPORTED, Probe.UNSUPPORTED);
        ofFull("{w}{w,hex}", Probe.UNSUPPORTED, Probe.UNSUPPORTED);
        ofFull("{w,hex}{w}", Probe.STATE, Probe.UNSUPPORTED);
        ofFull("1{x}", Probe.ELEMENT, Probe.UNSUPPORTED);
        ofFull("{n,plural,other{12{x}}}", Probe.UNSUPPORTED, Probe.UNSUPPORTED);
    }
}
