/** Promise 12: format writes the message of a slot. */
public final class FormatTest {
    public static void main(String[] args) {
        quotes();
        signs();
        numbers();
        words();
        select();
        plural();
        offset();
        failures();
        lenient();
        fullResult();
        firstFailureCounts();
        slots();
        Probe.finish();
    }

    private static void due(boolean doubled, String pattern, String want) {
        Probe p = new Probe();
        p.number("n", 1234, 0);
        p.word("w", "abc");
        p.message(0, doubled, pattern);
        p.written(want);
    }

    private static void quotes() {
        due(false, "it's", "it's");
        due(true, "it's {n}", "its {n}");
        due(false, "it''s", "it's");
        due(true, "it''s", "it's");
        due(false, "'{n}'", "{n}");
        due(true, "'{n}'", "{n}");
        due(false, "'}'{n}", "}1234");
        due(false, "'{n}''s' {w}", "{n}'s abc");
        due(true, "'a''b'{w}", "a'babc");
        due(false, "'{n} {w}", "{n} {w}");
        due(true, "'{n} {w}", "{n} {w}");
        due(false, "'''{n}'''", "'{n}'");
        due(true, "'''{n}'''", "'{n}'");
        due(false, "''''", "''");
        due(true, "''''", "''");
        due(false, "'''", "''");
        due(true, "'''", "'");
        due(false, "'", "'");
        due(true, "'", "");
        due(false, "'#'", "'#'");
        due(true, "'#'", "#");
        due(false, "' {n}'", "' 1234'");
        due(true, "' {n}'", " {n}");
        due(false, "'{''", "{'");
        due(false, "'{'''x", "{'x");
        due(false, "a}b#c", "a}b#c");
        due(false, "{n,plural,other{'#' '{'}}", "# {");
        due(false, "{n,plural,other{'x #}}", "'x 1,234");
        due(true, "{n,plural,other{'x #'}}", "x #");
        due(false, "{n,plural,other{''#}}", "'1,234");
        due(false, "{n,select,other{'#' }}", "'#' ");
        due(false, "{n,select,other{'}'}}", "}");
        due(false, "{n,select,other{ a }}", " a ");
    }

    private static void signs() {
        due(false, "#", "#");
        due(false, "{n,select,other{#}}", "#");
        due(false, "{n,plural,other{#}}", "1,234");
        due(false, "{n,selectordinal,other{#}}", "1,234");
        due(false, "{n,plural,other{#{w,select,other{#}}#}}", "1,234#1,234");
        due(false, "{n,plural,other{{w,select,other{{n,plural,offset:1 other{#}}#}}#}}",
            "1,233#1,234");
        due(false, "{n,plural,offset:4 other{{n,plural,offset:34 other{#}}#}}", "1,2001,230");
        due(false, "{w,select,other{{n,plural,other{#}}}}", "1,234");
    }

    private static void number(long mantissa, int scale, String plain, String grouped) {
        Probe p = new Probe();
        p.number("n", mantissa, scale);
        p.message(0, false, "{n} {n,number} {n,upper} {n,plural,other{#}}");
        p.written(plain + " " + grouped + " " + plain + " " + grouped);
    }

    private static void hex(long mantissa, String want) {
        Probe p = new Probe();
        p.number("n", mantissa, 0);
        p.message(0, false, "{n,hex}");
        p.written(want);
    }

    private static void numbers() {
        number(0, 0, "0", "0");
        number(7, 0, "7", "7");
        number(-7, 0, "-7", "-7");
        number(999, 0, "999", "999");
        number(1000, 0, "1000", "1,000");
        number(-100000, 0, "-100000", "-100,000");
        number(1234567, 0, "1234567", "1,234,567");
        number(1000000000000000L, 0, "1000000000000000", "1,000,000,000,000,000");
        number(-1000000000000000L, 6, "-1000000000.000000", "-1,000,000,000.000000");
        number(0, 2, "0.00", "0.00");
        number(-5, 1, "-0.5", "-0.5");
        number(5, 6, "0.000005", "0.000005");
        number(123456789, 3, "123456.789", "123,456.789");
        number(1234567, 6, "1.234567", "1.234567");
        number(-1000100, 4, "-100.0100", "-100.0100");
        hex(0, "0");
        hex(15, "f");
        hex(16, "10");
        hex(-255, "-ff");
        hex(0xabcdef9876L, "abcdef9876");
        hex(1000000000000000L, "38d7ea4c68000");
        hex(-1000000000000000L, "-38d7ea4c68000");
    }

    private static void words() {
        Probe p = new Probe();
        p.message(0, false, "{w}/{w,upper}");
        p.word("w", "azAZ");
        p.written("azAZ/AZAZ");
        p.word("w", "`{@1");
        p.written("`{@1/`{@1");
        p.word("w", "");
        p.written("/");
    }

    private static void select() {
        Probe p = new Probe();
        p.message(0, false, "{w,select,a{1}ab{2}a{3}other{4}abcd{5}one{6}other{7}}");
        String[][] cases = {{"a", "1"}, {"ab", "2"}, {"abcd", "5"}, {"abc", "4"}, {"", "4"},
            {"A", "4"}, {"a ", "4"}, {"one", "6"}, {"othe", "4"}};
        for (String[] row : cases) {
            p.word("w", row[0]);
            p.written(row[1]);
        }
        p.ruleText(false, "one:n=1");
        p.number("w", 1, 0);
        p.written("4");
    }

    private static void plural() {
        Probe p = new Probe();
        p.ruleText(false, "one:n=1;few:n=3").ruleText(true, "two:n=1;few:n=4");
        p.message(0, false, "{n,plural,one{o}=1{x}=1{y}few{f}few{g}other{t}other{u}}");
        p.number("n", 1, 0);
        p.written("x");
        p.number("n", 100, 2);
        p.written("x");
        p.number("n", -1, 0);
        p.written("o");
        p.number("n", 3, 0);
        p.written("f");
        p.number("n", 4, 0);
        p.written("t");
        p.number("n", 31, 1);
        p.written("t");
        p.message(0, false, "{n,selectordinal,other{t}one{o}two{w}few{f}=5{v}=9999{m}}");
        p.number("n", 1, 0);
        p.written("w");
        p.number("n", 4, 0);
        p.written("f");
        p.number("n", 5, 0);
        p.written("v");
        p.number("n", 3, 0);
        p.written("t");
        p.number("n", 9999000000L, 6);
        p.written("m");
        p.message(0, false, "{n,plural,other{t}one{o}}");
        p.number("n", 10, 1);
        p.written("o");
        p.message(0, false, "{n,plural,=0001{a}=0{b}other{c}}");
        p.written("a");
        p.number("n", 0, 3);
        p.written("b");
        p.message(0, false, "{n,plural,many{m}other{c}}");
        p.written("c");
        p.number("n", 1, 0);
        p.written("c");
        p.message(0, false, "{n,selectordinal,one{o}other{c}few{f}}");
        p.written("c");
    }

    private static void offset() {
        Probe p = new Probe();
        p.ruleText(false, "one:n=1").ruleText(true, "one:n=2");
        p.message(0, false, "{n,plural,offset:2=1{x}one{one #}other{other #}}");
        p.number("n", 1, 0);
        p.written("x");
        p.number("n", 3, 0);
        p.written("one 1");
        p.number("n", 300, 2);
        p.written("one 1.00");
        p.number("n", 15, 1);
        p.written("other -0.5");
        p.number("n", -1000000000000000L, 6);
        p.written("other -1,000,000,002.000000");
        p.message(0, false, "{n,selectordinal,offset:99 one{one #}other{other #}}");
        p.number("n", 97, 0);
        p.written("one -2");
        p.number("n", -1000000000000000L, 0);
        p.written("other -1,000,000,000,000,099");
        p.message(0, false, "{n,plural,offset:0other{#}}");
        p.number("n", 5, 0);
        p.written("5");
    }

    private static void fails(String pattern, String want) {
        Probe p = new Probe();
        p.number("n", 15, 0);
        p.number("d", 15, 1);
        p.word("w", "abc");
        p.message(0, false, "before");
        p.written("before");
        p.message(0, false, pattern);
        Probe.due("format of " + pattern, p.format(0, false), want);
        Probe.due("the result stays after " + pattern, p.result(), "before");
        Probe.due("out(0) after " + pattern, p.object.out(0), (int) 'b');
    }

    private static void failures() {
        fails("{x}", Probe.ELEMENT);
        fails("{x,number}", Probe.ELEMENT);
        fails("{x,hex}", Probe.ELEMENT);
        fails("{x,upper}", Probe.ELEMENT);
        fails("{x,select,other{}}", Probe.ELEMENT);
        fails("{x,plural,other{}}", Probe.ELEMENT);
        fails("{x,selectordinal,other{}}", Probe.ELEMENT);
        fails("{w,number}", Probe.STATE);
        fails("{w,hex}", Probe.STATE);
        fails("{d,hex}", Probe.STATE);
        fails("{w,plural,other{}}", Probe.STATE);
        fails("{w,selectordinal,other{}}", Probe.STATE);
        fails("{w,hex}{x}", Probe.STATE);
        fails("{x}{w,hex}", Probe.ELEMENT);
        fails("{n,plural,other{{w,select,other{{x}}}}}", Probe.ELEMENT);
        due(false, "{n,plural,=1234{a}other{{x}}}", "a");
    }

    private static void lenient() {
        Probe p = new Probe();
        p.number("n", 15, 1);
        p.word("w", "abc");
        p.message(0, false, "a{x}b{ w , number }c{n,hex}d{w}");
        p.writtenLenient("a{x}b{w}c{n}dabc");
        p.message(0, false, "{n,plural,other{yes {w,select,other{no {x}}}}}!");
        p.writtenLenient("{n}!");
        p.message(0, false, "{w,select,other{{n} {n,hex}}}{n}");
        p.writtenLenient("{w}1.5");
        p.message(0, false, "{abcd,plural,other{}}");
        p.writtenLenient("{abcd}");
        p.message(0, false, "{w,select,abc{ok}other{{x}}}");
        p.writtenLenient("ok");
        p.message(0, false, "'{'{x}}");
        p.writtenLenient("{{x}}");
    }

    /** A new object with a number of sixteen characters, a word of four, and a message. */
    private static Probe longValues(String pattern) {
        Probe p = new Probe();
        p.number("n", 1000000000000000L, 0);
        p.word("w", "abcd");
        p.message(0, false, pattern);
        return p;
    }

    private static void fullResult() {
        String hundred = "x".repeat(100);
        longValues(hundred + "{w}".repeat(6)).written(hundred + "abcd".repeat(6));
        longValues("{w}".repeat(40)).written("abcd".repeat(40));
        longValues("{w}".repeat(39) + "xyz").written("abcd".repeat(39) + "xyz");
        String nine = "{n}".repeat(9);
        longValues(nine + "{w}{w}{w}{w}")
            .written("1000000000000000".repeat(9) + "abcd".repeat(4));
        String[] tooLong = {nine + "{w}{w}{w}{w}x", nine + "{w}{w}{w}{w}''",
            nine + "{w}{w}{w}xy{n,hex}", "{n,number}".repeat(8), nine + "{w}{w}{w}xyz{w}"};
        for (String pattern : tooLong) {
            overflows(pattern, false);
            overflows(pattern, true);
        }
    }

    private static void overflows(String pattern, boolean lenient) {
        Probe p = longValues("before");
        p.written("before");
        p.message(0, false, pattern);
        Probe.due("format of " + pattern, p.format(0, lenient), Probe.UNSUPPORTED);
        Probe.due("the result stays", p.result(), "before");
    }

    private static void firstFailureCounts() {
        String full = "{n}".repeat(9) + "{w}{w}{w}";
        dueOfLong(full + "{w}{x}", Probe.ELEMENT, Probe.UNSUPPORTED);
        dueOfLong(full + "{x}", Probe.ELEMENT, "159");
        dueOfLong(full + "xy{x}", Probe.ELEMENT, Probe.UNSUPPORTED);
        dueOfLong(full + "{w,select,other{abc{n}{x}}}", Probe.UNSUPPORTED, Probe.UNSUPPORTED);
        dueOfLong(full + "{w,select,other{{x}{n}}}", Probe.ELEMENT, "159");
    }

    private static void dueOfLong(String pattern, String strict, String lenient) {
        Probe p = longValues(pattern);
        Probe.due("format of " + pattern, p.format(0, false), strict);
        Probe.due("lenient format of " + pattern, p.format(0, true), lenient);
    }

    private static void slots() {
        Probe p = new Probe();
        p.message(1, false, "one");
        int[] none = {-1, 0, 2, Integer.MIN_VALUE, Integer.MAX_VALUE};
        for (int slot : none) {
            Probe.due("format of slot " + slot, p.format(slot, false), Probe.ARGUMENT);
            Probe.due("lenient format of slot " + slot, p.format(slot, true), Probe.ARGUMENT);
        }
        Probe.due("format of slot 1", p.format(1, false), "3");
        Probe.due("result", p.result(), "one");
        Probe.due("format of slot 0", p.format(0, false), Probe.ARGUMENT);
        Probe.due("result stays", p.result(), "one");
    }
}
