import java.util.function.Function;

/** The boundary cases of the promises 1 to 14, and what a call that throws leaves. */
public final class CallsBoundaryTest {
    private static final long MOST = 1000000000000000L;
    private static final int[] WRONG_NAMES = {0, 'A', 'Z', '`', '{', ' ', '0', 1, 128, 255, -1,
        0x61626364 | 0x80, 0x41626364, 0x61624163, 0xe1000000, 0x7b000061, 0x60000000,
        Integer.MIN_VALUE, Integer.MAX_VALUE};

    public static void main(String[] args) {
        newObject();
        typeBytes();
        typeRefused();
        wipe();
        length();
        emptyMessage();
        textStays();
        wrongSlotOfCompile();
        errorOfCompile();
        rulesOfOneSet();
        errorOfRules();
        fault();
        namesOfValues();
        inPlaceOfWhatWasThere();
        wrongNumbers();
        wordBytes();
        wrongWords();
        seventhName();
        drop();
        wrongCategory();
        format();
        lenient();
        lenientBranch();
        lenientLeavesRoom();
        lenientAtLevelZeroOnly();
        emptySlot();
        size();
        out();
        throwingChangesNothing();
        Probe.finish();
    }

    private static void newObject() {
        Probe.sentence("All empty, no values");
        Probe p = new Probe();
        Probe.due("length", p.object.length(), 0);
        Probe.due("size", p.object.size(), 0);
        Probe.due("out(0)", p.object.out(0), -1);
        Probe.due("fault", p.object.fault(), -1);
        Probe.due("slot 0", p.format(0, true), Probe.ARGUMENT);
        Probe.due("slot 1", p.format(1, true), Probe.ARGUMENT);
        for (int name = 'a'; name <= 'z'; name++) {
            Probe.due("drop of " + name, p.object.drop(name), false);
        }
        for (int name = 'a'; name <= 'f'; name++) {
            Probe.due("there is room for six", p.number(name, 1, 0), Probe.NOTHING);
        }
    }

    private static void typeBytes() {
        Probe.sentence("Appends the bytes of w other than 0, the highest first");
        String[] texts = {"", "d", "c", "cd", "b", "bd", "bc", "bcd", "a", "ad", "ac", "acd", "ab",
            "abd", "abc", "abcd"};
        for (int k = 0; k < texts.length; k++) {
            // Bit 3 of k is for the highest byte, bit 0 for the lowest.
            int w = (k & 8) / 8 * 0x61000000 | (k & 4) / 4 * 0x620000 | (k & 2) / 2 * 0x6300
                | (k & 1) * 0x64;
            Probe p = new Probe();
            p.object.type('<');
            Probe.due("type of " + texts[k], p.object.type(w), true);
            p.object.type('>');
            p.compile(0, false);
            p.written("<" + texts[k] + ">");
        }
    }

    private static void typeRefused() {
        Probe.sentence("false, changing nothing, when one is not 32 .. 126 "
            + "or there is no room for all");
        int[] wrong = {1, 31, 127, 128, 255, 0x1f616263, 0x611f6263, 0x61621f63, 0x6162631f,
            0x7f616263, 0x617f6263, 0x61627f63, 0x6162637f, 0x80616263, 0xff616263, -1,
            Integer.MIN_VALUE, Integer.MAX_VALUE, 0x0a000000};
        Probe p = new Probe();
        p.text("x");
        for (int w : wrong) {
            Probe.due("type(" + w + ")", p.object.type(w), false);
        }
        p.compile(0, false);
        p.written("x");
        p.text("x".repeat(117));
        Probe.due("four where three fit", p.object.type(Probe.bytes("abcd")), false);
        Probe.due("length", p.object.length(), 117);
        Probe.due("three where three fit", p.object.type(0x61006263), true);
        Probe.due("length", p.object.length(), 120);
        Probe.due("one where none fits", p.object.type('a'), false);
        Probe.due("none where none fits", p.object.type(0), true);
        Probe.due("length", p.object.length(), 120);
        p.compile(0, false);
        p.written("x".repeat(117) + "abc");
    }

    private static void wipe() {
        Probe.sentence("The text becomes empty");
        int[] lengths = {0, 1, 119, 120};
        for (int length : lengths) {
            Probe p = new Probe();
            p.text("x".repeat(length));
            p.object.wipe();
            Probe.due("length", p.object.length(), 0);
            p.object.wipe();
            Probe.due("length after another wipe", p.object.length(), 0);
            p.compile(0, false);
            p.written("");
            p.text("y".repeat(120));
            Probe.due("there is room for all again", p.object.length(), 120);
        }
    }

    private static void length() {
        Probe.sentence("The length of the text");
        Probe p = new Probe();
        for (int k = 0; k < 120; k++) {
            Probe.due("length", p.object.length(), k);
            p.object.type(' ');
        }
        Probe.due("length when full", p.object.length(), 120);
        p.object.type(' ');
        Probe.due("length when more was typed", p.object.length(), 120);
    }

    private static void emptyMessage() {
        Probe.sentence("an empty text an empty message: the slot is not empty then");
        boolean[] both = {false, true};
        for (boolean doubled : both) {
            for (int slot = 0; slot < 2; slot++) {
                Probe p = new Probe();
                Probe.due("format before", p.format(slot, false), Probe.ARGUMENT);
                Probe.due("compile", p.compile(slot, doubled), Probe.NOTHING);
                Probe.due("fault", p.object.fault(), -1);
                Probe.due("format", p.format(slot, false), "0");
                Probe.due("lenient format", p.format(slot, true), "0");
                Probe.due("size", p.object.size(), 0);
                Probe.due("the other slot", p.format(1 - slot, false), Probe.ARGUMENT);
            }
        }
        Probe p = new Probe();
        p.message(0, false, "abc");
        p.written("abc");
        p.object.wipe();
        p.compile(0, false);
        p.written("");
    }

    private static void textStays() {
        Probe.sentence("it stays the text");
        Probe p = new Probe();
        p.text("ab");
        p.compile(0, false);
        p.object.type('c');
        Probe.due("length", p.object.length(), 3);
        p.compile(1, false);
        p.written("ab");
        Probe.due("format of slot 1", p.format(1, false), "3");
        p.text("one:n=1");
        p.rules(false);
        p.object.type(Probe.bytes(",2"));
        p.rules(true);
        Probe.due("length of rules", p.object.length(), 9);
        Probe.due("for counting", p.category(false, 2, 0), "5");
        Probe.due("for order", p.category(true, 2, 0), "1");
    }

    private static void wrongSlotOfCompile() {
        Probe.sentence("IllegalArgumentException when slot is not 0 or 1 (the fault is -1 then)");
        int[] wrong = {-1, 2, 3, 256, -256, Integer.MIN_VALUE, Integer.MAX_VALUE};
        for (int slot : wrong) {
            Probe p = new Probe();
            p.text("a{");
            Probe.due("compile of 0", p.compile(0, false), Probe.ARGUMENT);
            Probe.due("fault of 0", p.object.fault(), 2);
            Probe.due("compile of " + slot, p.compile(slot, false), Probe.ARGUMENT);
            Probe.due("fault of " + slot, p.object.fault(), -1);
            p.text("a");
            Probe.due("compile of " + slot, p.compile(slot, true), Probe.ARGUMENT);
            Probe.due("fault of " + slot, p.object.fault(), -1);
        }
    }

    private static void errorOfCompile() {
        Probe.sentence("or there is an error (the fault is its place)");
        Probe.messageError("{", 1);
        Probe.messageError("{}", 1);
        Probe.messageError("{?", 1);
        Probe.messageError("x".repeat(117) + "{}x", 118);
        Probe.messageError("x".repeat(119) + "{", 120);
        // The first of two errors counts.
        Probe.messageError("{A}{B}", 1);
        Probe.messageError("{a}{B}{", 4);
    }

    private static void rulesOfOneSet() {
        Probe.sentence("The text becomes the rules for counting, or for order");
        Probe p = new Probe();
        p.ruleText(false, "one:n=1");
        Probe.due("for counting", p.category(false, 1, 0), "1");
        Probe.due("for order", p.category(true, 1, 0), "5");
        p.ruleText(true, "two:n=1");
        Probe.due("for counting", p.category(false, 1, 0), "1");
        Probe.due("for order", p.category(true, 1, 0), "2");
        p.ruleText(false, "");
        Probe.due("for counting, none", p.category(false, 1, 0), "5");
        Probe.due("for order", p.category(true, 1, 0), "2");
    }

    private static void errorOfRules() {
        Probe.sentence("IllegalArgumentException when there is an error (the fault is its place)");
        Probe.rulesError("x", 0);
        Probe.rulesError("one", 3);
        Probe.rulesError("one:n=" + "1,".repeat(56) + "x", 118);
        Probe.rulesError(" ".repeat(119) + "x", 119);
        Probe.rulesError(" ".repeat(117) + "one", 120);
        Probe.rulesError("one:x=1;other:n=1", 4);
    }

    private static void fault() {
        Probe.sentence("What the latest compile or rules left: -1 when it threw nothing, or slot "
            + "was wrong; else the place of its error. NONE at first");
        Probe p = new Probe();
        Probe.due("at first", p.object.fault(), PluralMessages.NONE);
        p.text("ab{");
        p.compile(0, false);
        Probe.due("after compile", p.object.fault(), 3);
        p.rules(false);
        Probe.due("after rules", p.object.fault(), 0);
        p.compile(1, true);
        Probe.due("after compile", p.object.fault(), 3);
        Probe.due("asked again", p.object.fault(), 3);
        p.compile(2, true);
        Probe.due("after a wrong slot", p.object.fault(), -1);
        p.rules(true);
        Probe.due("after rules", p.object.fault(), 0);
        p.object.wipe();
        Probe.due("after wipe", p.object.fault(), 0);
        p.rules(true);
        Probe.due("after rules that threw nothing", p.object.fault(), -1);
        p.text("{");
        p.compile(0, false);
        p.text("x");
        Probe.due("before compile", p.object.fault(), 1);
        p.compile(0, false);
        Probe.due("after compile that threw nothing", p.object.fault(), -1);
        p.rules(false);
        p.number(0, 0, 0);
        p.word(0, 0);
        p.category(false, 0, 7);
        p.format(2, false);
        p.format(0, false);
        p.object.drop(0);
        p.object.type(1);
        p.object.length();
        p.object.size();
        p.object.out(0);
        Probe.due("after all other calls", p.object.fault(), 0);
    }

    private static void namesOfValues() {
        Probe.sentence("(letters as the bytes of name other than 0, the highest first) ... "
            + "IllegalArgumentException when these are not 1 to 4 of a .. z");
        for (int name : WRONG_NAMES) {
            Probe p = new Probe();
            Probe.due("number under " + name, p.number(name, 1, 0), Probe.ARGUMENT);
            Probe.due("word under " + name, p.word(name, 'x'), Probe.ARGUMENT);
            Probe.due("drop of " + name, p.object.drop(name), false);
        }
        int[] same = {0x6162, 0x616200, 0x61620000, 0x610062, 0x61006200, 0x61000062};
        for (int name : same) {
            Probe p = new Probe();
            p.message(0, false, "{ab}");
            Probe.due("number under " + name, p.number(name, 5, 0), Probe.NOTHING);
            p.written("5");
            Probe.due("word under " + name, p.word(name, 'x'), Probe.NOTHING);
            p.written("x");
            Probe.due("drop of ab", p.object.drop(0x6162), true);
        }
        Probe p = new Probe();
        String[] fine = {"a", "z", "az", "abc", "abcd", "zzzz"};
        for (String name : fine) {
            Probe.due("number under " + name, p.number(name, name.length(), 0), Probe.NOTHING);
        }
        p.message(0, false, "{a}{z}{az}{abc}{abcd}{zzzz}");
        p.written("112344");
    }

    private static void inPlaceOfWhatWasThere() {
        Probe.sentence("Puts a number under a name ..., in place of what was there");
        Probe p = new Probe();
        p.message(0, false, "{a}");
        p.number("a", 12, 1);
        p.number("a", 3, 0);
        p.written("3");
        p.word("a", "abcd");
        p.written("abcd");
        p.word("a", "");
        p.written("");
        p.number("a", -4, 6);
        p.written("-0.000004");
        Probe.due("drop", p.object.drop('a'), true);
        Probe.due("drop again", p.object.drop('a'), false);
    }

    private static void wrongNumbers() {
        Probe.sentence("or scale is not 0 .. 6, or mantissa is not -10^15 .. 10^15");
        Probe p = new Probe();
        int[] scales = {-1, 7, 8, -7, 256, Integer.MIN_VALUE, Integer.MAX_VALUE};
        for (int scale : scales) {
            Probe.due("scale " + scale, p.number("a", 0, scale), Probe.ARGUMENT);
        }
        long[] mantissas = {MOST + 1, -MOST - 1, Long.MAX_VALUE, Long.MIN_VALUE, MOST * 10,
            -MOST * 10};
        for (long mantissa : mantissas) {
            Probe.due("mantissa " + mantissa, p.number("a", mantissa, 0), Probe.ARGUMENT);
            Probe.due("mantissa " + mantissa, p.number("a", mantissa, 6), Probe.ARGUMENT);
        }
        Probe.due("nothing was put", p.object.drop('a'), false);
        long[] fine = {MOST, -MOST, MOST - 1, 1 - MOST, 0};
        for (long mantissa : fine) {
            Probe.due("mantissa " + mantissa, p.number("a", mantissa, 0), Probe.NOTHING);
            Probe.due("mantissa " + mantissa, p.number("a", mantissa, 6), Probe.NOTHING);
        }
    }

    private static void wordBytes() {
        Probe.sentence("Puts a word under a name: the bytes of w other than 0, the highest first");
        int[] words = {0, 0x64, 0x6300, 0x620000, 0x61000000, 0x6364, 0x610064, 0x61000064,
            0x61620063, 0x61626364};
        String[] want = {"", "d", "c", "b", "a", "cd", "ad", "ad", "abc", "abcd"};
        Probe p = new Probe();
        p.message(0, false, "<{w}>{w,select,ad{yes}other{no}}");
        for (int k = 0; k < words.length; k++) {
            Probe.due("word " + words[k], p.word('w', words[k]), Probe.NOTHING);
            p.written("<" + want[k] + ">" + (want[k].equals("ad") ? "yes" : "no"));
        }
    }

    private static void wrongWords() {
        Probe.sentence("IllegalArgumentException when the name is not as said "
            + "or one of the bytes is not 32 .. 126");
        int[] wrong = {1, 31, 127, 128, 255, 0x1f616263, 0x617f6263, 0x61628063, 0x616263ff, -1,
            Integer.MIN_VALUE};
        Probe p = new Probe();
        p.message(0, false, "{a}");
        p.word("a", "old");
        for (int w : wrong) {
            Probe.due("the word " + w, p.word('a', w), Probe.ARGUMENT);
            Probe.due("the word " + w + " under another name", p.word('b', w), Probe.ARGUMENT);
        }
        p.written("old");
        Probe.due("nothing was put", p.object.drop('b'), false);
        Probe.due("the first and last characters", p.word('a', 0x207e7e20), Probe.NOTHING);
        p.written(" ~~ ");
        Probe.due("no character", p.word('a', 0), Probe.NOTHING);
        p.written("");
        Probe.due("zeros between", p.word('a', 0x78000079), Probe.NOTHING);
        p.written("xy");
    }

    private static void seventhName() {
        Probe.sentence("IllegalStateException when it would be the seventh name");
        Probe p = new Probe();
        for (int k = 0; k < 6; k++) {
            int name = 'a' + k;
            Probe.due("name " + k, k % 2 == 0 ? p.number(name, k, 0) : p.word(name, '0' + k),
                Probe.NOTHING);
        }
        Probe.due("the seventh, a number", p.number("g", 1, 0), Probe.STATE);
        Probe.due("the seventh, a word", p.word("g", "x"), Probe.STATE);
        Probe.due("the seventh of four letters", p.number("abcd", 1, 0), Probe.STATE);
        Probe.due("a wrong name", p.number("G", 1, 0), Probe.ARGUMENT);
        Probe.due("a wrong scale", p.number("g", 1, 7), Probe.ARGUMENT);
        Probe.due("a wrong mantissa", p.number("g", MOST + 1, 0), Probe.ARGUMENT);
        Probe.due("a wrong word", p.word('g', 31), Probe.ARGUMENT);
        p.message(0, false, "{a}{b}{c}{d}{e}{f}");
        p.written("012345");
        for (int k = 0; k < 6; k++) {
            Probe.due("one of the six", p.number('a' + k, 9, 0), Probe.NOTHING);
            Probe.due("one of the six", p.word('a' + k, 'w'), Probe.NOTHING);
        }
        p.written("wwwwww");
        for (int k = 0; k < 6; k++) {
            Probe.due("drop", p.object.drop('a' + k), true);
            Probe.due("room for one", p.number('g' + k, k, 0), Probe.NOTHING);
            Probe.due("but for one alone", p.number('a' + k, k, 0), Probe.STATE);
        }
        p.message(0, false, "{g}{h}{i}{j}{k}{l}");
        p.written("012345");
    }

    private static void drop() {
        Probe.sentence("Takes the value under a name away; whether there was one");
        Probe p = new Probe();
        Probe.due("drop of nothing", p.object.drop('a'), false);
        for (int k = 0; k < 6; k++) {
            p.number('a' + k, k, 0);
        }
        p.message(0, false, "{a}{b}{c}{d}{e}{f}");
        Probe.due("drop of the first", p.object.drop('a'), true);
        p.writtenLenient("{a}12345");
        Probe.due("drop of the last", p.object.drop('f'), true);
        p.writtenLenient("{a}1234{f}");
        Probe.due("drop of one between", p.object.drop('c'), true);
        p.writtenLenient("{a}1{c}34{f}");
        Probe.due("drop of it again", p.object.drop('c'), false);
        Probe.due("drop of no name", p.object.drop('z'), false);
        Probe.due("drop of a part of a name", p.object.drop(0x6262), false);
        p.writtenLenient("{a}1{c}34{f}");
        Probe.due("drop with zeros behind", p.object.drop('b' << 24), true);
        Probe.due("drop", p.object.drop('d'), true);
        Probe.due("drop", p.object.drop('e'), true);
        p.writtenLenient("{a}{b}{c}{d}{e}{f}");
    }

    private static void wrongCategory() {
        Probe.sentence("IllegalArgumentException when mantissa or scale are not as said for number");
        Probe p = new Probe();
        p.ruleText(false, "one:n!=0").ruleText(true, "two:n!=0");
        boolean[] both = {false, true};
        for (boolean order : both) {
            String fine = order ? "2" : "1";
            Probe.due("scale -1", p.category(order, 1, -1), Probe.ARGUMENT);
            Probe.due("scale 0", p.category(order, 1, 0), fine);
            Probe.due("scale 6", p.category(order, 1, 6), fine);
            Probe.due("scale 7", p.category(order, 1, 7), Probe.ARGUMENT);
            Probe.due("the least scale", p.category(order, 1, Integer.MIN_VALUE), Probe.ARGUMENT);
            Probe.due("the largest scale", p.category(order, 1, Integer.MAX_VALUE), Probe.ARGUMENT);
            Probe.due("10^15", p.category(order, MOST, 0), fine);
            Probe.due("10^15 + 1", p.category(order, MOST + 1, 0), Probe.ARGUMENT);
            Probe.due("-10^15", p.category(order, -MOST, 6), fine);
            Probe.due("-10^15 - 1", p.category(order, -MOST - 1, 6), Probe.ARGUMENT);
            Probe.due("the largest long", p.category(order, Long.MAX_VALUE, 0), Probe.ARGUMENT);
            Probe.due("the least long", p.category(order, Long.MIN_VALUE, 0), Probe.ARGUMENT);
        }
    }

    private static void format() {
        Probe.sentence("Writes the message of a slot; what was written is the result then; "
            + "answers its length");
        Probe p = new Probe();
        p.message(0, false, "").message(1, false, "x".repeat(120));
        Probe.due("the empty message", p.format(0, false), "0");
        Probe.due("size", p.object.size(), 0);
        Probe.due("the longest one without arguments", p.format(1, false), "120");
        Probe.due("size", p.object.size(), 120);
        Probe.due("the empty message again", p.format(0, true), "0");
        Probe.due("size", p.object.size(), 0);
        Probe.due("out(0)", p.object.out(0), -1);
    }

    private static void lenient() {
        Probe.sentence("When lenient, an argument in the message of level 0 that fails ... itself");
        Probe p = new Probe();
        p.word("w", "abc");
        p.number("d", 5, 1);
        p.message(0, false, "{w}{x}{ abcd , upper }{w,hex}{d,hex}{w,number}{w,plural,other{}}.{d}");
        p.writtenLenient("abc{x}{abcd}{w}{d}{w}{w}.0.5");
        Probe.due("format that is not lenient", p.format(0, false), Probe.ELEMENT);
        Probe.due("the result stays", p.object.size(), 28);
        p.message(0, false, "{w}{d}");
        p.writtenLenient("abc0.5");
        p.written("abc0.5");
    }

    private static void lenientBranch() {
        Probe.sentence("(itself, or anything in the branch that it chose) does not fail: what it "
            + "wrote is taken back, and {, its name and } are written instead");
        Probe p = new Probe();
        p.word("w", "abc");
        p.number("n", 5, 0);
        p.message(0, false, "<{w,select,other{a {x} b}}>");
        p.writtenLenient("<{w}>");
        p.message(0, false, "<{n,plural,other{# {w,select,abc{{n}{w,hex}}other{}}}}>");
        p.writtenLenient("<{n}>");
        p.message(0, false, "<{w,select,abc{fine}other{{x}}}>");
        p.writtenLenient("<fine>");
        p.message(0, false, "<{n,plural,other{{w,select,other{{n,plural,other{#{x}}}}}}}{n}>");
        p.writtenLenient("<{n}5>");
        p.message(0, false, "{x}{n,plural,other{{x}}}{x}");
        p.writtenLenient("{x}{n}{x}");
        p.message(0, false, "{w,select,other{" + "y".repeat(70) + "{x}}}{x}");
        p.writtenLenient("{w}{x}");
    }

    private static void lenientLeavesRoom() {
        Probe.sentence("what it wrote is taken back");
        String five = "{n}".repeat(5);
        Probe p = new Probe();
        p.word("w", "abc");
        p.number("n", MOST, 0);
        // The branch fills the result to its last character before it fails.
        p.message(0, false, five + "{w,select,other{" + five + "{x}}}{n}{n}{n}{n}{w}{w}{w}{w}y");
        Probe.due("lenient format", p.format(0, true), "160");
        Probe.due("behind the first five", p.object.out(80), (int) '{');
        Probe.due("the last one", p.object.out(159), (int) 'y');
        p.message(0, false, five + "{w,select,other{" + five + "y{x}}}");
        Probe.due("lenient format, one more", p.format(0, true), Probe.UNSUPPORTED);
    }

    private static void lenientAtLevelZeroOnly() {
        Probe.sentence("an argument in the message of level 0");
        Probe p = new Probe();
        p.word("w", "abc");
        p.message(0, false, "{w,select,other{{w,select,other{{w,select,other{{x}}}}}}}");
        p.writtenLenient("{w}");
        p.message(0, false, "{w,select,other{({x})}}({x})");
        p.writtenLenient("{w}({x})");
    }

    private static void emptySlot() {
        Probe.sentence("IllegalArgumentException when slot is not 0 or 1 or is empty");
        int[] wrong = {-1, 2, 3, 256, Integer.MIN_VALUE, Integer.MAX_VALUE};
        boolean[] both = {false, true};
        for (boolean lenient : both) {
            Probe p = new Probe();
            p.message(1, false, "{x}");
            Probe.due("format of 0", p.format(0, lenient), Probe.ARGUMENT);
            p.text("{");
            p.compile(0, false);
            Probe.due("format of 0 after an error", p.format(0, lenient), Probe.ARGUMENT);
            for (int slot : wrong) {
                Probe.due("format of " + slot, p.format(slot, lenient), Probe.ARGUMENT);
            }
            Probe.due("format of 1", p.format(1, lenient), lenient ? "3" : Probe.ELEMENT);
        }
    }

    private static void size() {
        Probe.sentence("The length of the result");
        Probe p = new Probe();
        Probe.due("at first", p.object.size(), 0);
        p.word("w", "abcd");
        p.message(0, false, "{w}".repeat(40)).message(1, false, "");
        Probe.due("before format", p.object.size(), 0);
        p.format(0, false);
        Probe.due("when full", p.object.size(), 160);
        p.text("");
        Probe.due("when the text is empty", p.object.size(), 160);
        p.format(1, false);
        Probe.due("when empty", p.object.size(), 0);
    }

    private static void out() {
        Probe.sentence("Character k of the result; NONE when there is none");
        int[] never = {-1, -2, 160, 161, Integer.MIN_VALUE, Integer.MAX_VALUE};
        Probe p = new Probe();
        for (int k : never) {
            Probe.due("out(" + k + ")", p.object.out(k), PluralMessages.NONE);
        }
        Probe.due("out(0) at first", p.object.out(0), PluralMessages.NONE);
        p.word("w", "abcd");
        p.message(0, false, "{w}".repeat(40)).message(1, false, "xy");
        p.format(0, false);
        for (int k : never) {
            Probe.due("out(" + k + ") when full", p.object.out(k), PluralMessages.NONE);
        }
        Probe.due("out(0)", p.object.out(0), (int) 'a');
        Probe.due("out(159)", p.object.out(159), (int) 'd');
        p.format(1, false);
        Probe.due("out(1) of two", p.object.out(1), (int) 'y');
        Probe.due("out(2) of two", p.object.out(2), PluralMessages.NONE);
        Probe.due("out(159) of two", p.object.out(159), PluralMessages.NONE);
    }

    /** An object with something everywhere, whose text is no message and no rules. */
    private static Probe filled() {
        Probe p = new Probe();
        p.ruleText(false, "one:n=1;few:n=3").ruleText(true, "two:n=1,2");
        p.message(0, false, "{a,plural,offset:1 =2{x}one{o #}other{t #}}");
        p.message(1, true, "{f,select,x{1}other{2 {z}}}'{'{b}");
        for (int k = 0; k < 5; k++) {
            p.number('a' + k, 10 * k + 2, k);
        }
        p.word("f", "x");
        Probe.due("format", p.format(0, false), "1");
        return p;
    }

    /** All that can be asked of an object, and what its text does when it is made whole. */
    private static String seen(Probe p, String end) {
        StringBuilder seen = new StringBuilder(p.result());
        seen.append('|').append(p.object.length());
        for (int k = 0; k < 5; k++) {
            seen.append('|').append(p.category(false, k, 0)).append(p.category(true, k, 0));
        }
        for (int slot = 0; slot < 2; slot++) {
            seen.append('|').append(p.format(slot, false)).append(p.result());
        }
        p.object.type(Probe.bytes(end));
        seen.append('|').append(p.compile(0, false)).append(p.object.fault());
        seen.append('|').append(p.format(0, true)).append(p.result());
        seen.append('|').append(p.rules(false)).append(p.object.fault());
        for (int name = 'a'; name <= 'z'; name++) {
            seen.append(p.object.drop(name) ? '+' : '-');
        }
        return seen.toString();
    }

    private static void changesNothing(String text, String end, Function<Probe, String> call,
            String want) {
        Probe first = filled().text(text);
        Probe second = filled().text(text);
        String what = "a call that throws " + want + " with the text " + text;
        Probe.due(what, call.apply(first), want);
        Probe.due("all after " + what, seen(first, end), seen(second, end));
    }

    private static void throwingChangesNothing() {
        Probe.sentence("A call that throws changes nothing (but what fault answers)");
        String[][] messages = {{"{a", "}"}, {"x{b}{", "c}"}, {"{a,plural,offset:2 other{", "#}}"},
            {"{f,select,other{'{", "}'}}"}, {"{abcde}", ""}, {"{a,select,x{}}", ""}};
        for (String[] row : messages) {
            changesNothing(row[0], row[1], p -> p.compile(0, false), Probe.ARGUMENT);
            changesNothing(row[0], row[1], p -> p.compile(1, true), Probe.ARGUMENT);
            changesNothing(row[0], row[1], p -> p.rules(true), Probe.ARGUMENT);
        }
        String[][] rules = {{"one:n=2;two:n=1;few", ":n=4"}, {"many:n!=9;zero:n=", "1"}, {";", ""},
            {"one:n=0..9999;one:n=1", ""}, {"zero:n%2=0 and", " n=4"}};
        for (String[] row : rules) {
            changesNothing(row[0], row[1], p -> p.rules(false), Probe.ARGUMENT);
            changesNothing(row[0], row[1], p -> p.rules(true), Probe.ARGUMENT);
            changesNothing(row[0], row[1], p -> p.compile(2, false), Probe.ARGUMENT);
        }
        otherCallsChangeNothing();
    }

    private static void otherCallsChangeNothing() {
        String text = "{a}{";
        changesNothing(text, "b}", p -> p.number("a", 1, 7), Probe.ARGUMENT);
        changesNothing(text, "b}", p -> p.number("a", MOST + 1, 0), Probe.ARGUMENT);
        changesNothing(text, "b}", p -> p.number("A", 1, 0), Probe.ARGUMENT);
        changesNothing(text, "b}", p -> p.number("g", 1, 0), Probe.STATE);
        changesNothing(text, "b}", p -> p.word('a', 31), Probe.ARGUMENT);
        changesNothing(text, "b}", p -> p.word(0, 'x'), Probe.ARGUMENT);
        changesNothing(text, "b}", p -> p.word("g", "x"), Probe.STATE);
        changesNothing(text, "b}", p -> p.category(false, 1, 7), Probe.ARGUMENT);
        changesNothing(text, "b}", p -> p.category(true, MOST + 1, 0), Probe.ARGUMENT);
        changesNothing(text, "b}", p -> p.format(2, false), Probe.ARGUMENT);
        formatThatThrows("xy{z}", Probe.ELEMENT);
        formatThatThrows("xy{f,hex}", Probe.STATE);
        formatThatThrows("{e}".repeat(40), Probe.UNSUPPORTED);
    }

    private static void formatThatThrows(String pattern, String want) {
        Probe[] twins = {filled(), filled()};
        for (Probe p : twins) {
            p.number("e", -MOST, 0);
            p.message(1, false, pattern);
        }
        Probe.due("format of " + pattern, twins[0].format(1, false), want);
        Probe.due("fault after format", twins[0].object.fault(), -1);
        twins[1].object.fault();
        Probe.due("all after format of " + pattern, seen(twins[0], "x"), seen(twins[1], "x"));
    }
}
