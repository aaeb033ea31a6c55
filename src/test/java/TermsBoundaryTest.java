/** The boundary cases of the document's head and of the first lines of its Terms. */
public final class TermsBoundaryTest {
    private static final int CALLS_OF_AN_OBJECT = 512;

    public static void main(String[] args) {
        callsOfAnObject();
        callsThatThrow();
        characters();
        textLimit();
        slots();
        ruleSets();
        resultLimit();
        resultAtFirst();
        errorAtLength();
        errorAtLengthOfRules();
        errorAtFirstWrongCharacter();
        Probe.finish();
    }

    private static void callsOfAnObject() {
        Probe.sentence("An object is used for at most 512 calls after it has been made");
        Probe p = new Probe();
        p.object.type(Probe.bytes("<{n}"));
        p.object.type('>');
        int calls = 2;
        // Three calls a round, so that the last round ends with call 512.
        for (int k = 0; calls < CALLS_OF_AN_OBJECT; k++, calls += 3) {
            Probe.due("compile", p.compile(k % 2, k % 3 == 0), Probe.NOTHING);
            Probe.due("number", p.number("n", k, 0), Probe.NOTHING);
            String want = String.valueOf(String.valueOf(k).length() + 2);
            Probe.due("format, call " + (calls + 3), p.format(k % 2, false), want);
        }
        Probe.due("the calls", calls, CALLS_OF_AN_OBJECT);
    }

    private static void callsThatThrow() {
        Probe.sentence("An object is used for at most 512 calls after it has been made");
        Probe p = new Probe();
        p.message(0, false, "{a,select,x{1}other{2}}");
        p.text("{a,select,x{1}other{2}");
        for (int k = 0; k < 160; k++) {
            Probe.due("compile", p.compile(0, false), Probe.ARGUMENT);
            Probe.due("rules", p.rules(false), Probe.ARGUMENT);
            Probe.due("format", p.format(0, false), Probe.ELEMENT);
        }
        p.word("a", "x");
        p.written("1");
    }

    private static void characters() {
        Probe.sentence("CHARACTERS are 32 .. 126");
        for (int c = 1; c < 256; c++) {
            Probe p = new Probe();
            boolean isCharacter = c >= 32 && c <= 126;
            Probe.due("type(" + c + ")", p.object.type(c), isCharacter);
            Probe.due("type(" + c + " << 24)", p.object.type(c << 24), isCharacter);
            Probe.due("length", p.object.length(), isCharacter ? 2 : 0);
            Probe.due("word " + c, p.word('a', c << 16),
                isCharacter ? Probe.NOTHING : Probe.ARGUMENT);
        }
        Probe p = new Probe();
        p.message(0, false, "{a}");
        for (int c = 32; c <= 126; c++) {
            p.word('a', c);
            p.format(0, false);
            Probe.due("character " + c, p.object.out(0), c);
        }
    }

    private static void textLimit() {
        Probe.sentence("The TEXT has at most 120 of them");
        for (int bytes = 1; bytes <= 4; bytes++) {
            int w = Probe.bytes("wxyz".substring(0, bytes));
            for (int before = 112; before <= 120; before++) {
                Probe p = new Probe();
                p.text("a".repeat(before));
                boolean fits = before + bytes <= 120;
                Probe.due(bytes + " behind " + before, p.object.type(w), fits);
                Probe.due("length", p.object.length(), fits ? before + bytes : before);
                p.compile(0, false);
                p.written("a".repeat(before) + (fits ? "wxyz".substring(0, bytes) : ""));
            }
        }
    }

    private static void slots() {
        Probe.sentence("Slots 0 and 1 can have a message; at first they are empty");
        for (int slot = -3; slot <= 4; slot++) {
            Probe p = new Probe();
            boolean isSlot = slot == 0 || slot == 1;
            Probe.due("format of " + slot, p.format(slot, false), Probe.ARGUMENT);
            p.text("abc");
            Probe.due("compile of " + slot, p.compile(slot, false),
                isSlot ? Probe.NOTHING : Probe.ARGUMENT);
            Probe.due("format of " + slot, p.format(slot, false), isSlot ? "3" : Probe.ARGUMENT);
            Probe.due("format of the other", p.format(slot == 0 ? 1 : 0, false), Probe.ARGUMENT);
        }
    }

    private static void ruleSets() {
        Probe.sentence("There are two sets of RULES, for counting (0) and for order (1), "
            + "at first empty");
        for (int k = 0; k <= 12; k++) {
            Probe p = new Probe();
            Probe.due("for counting", p.category(false, k, 0), "5");
            Probe.due("for order", p.category(true, k, 0), "5");
        }
        Probe p = new Probe();
        p.ruleText(true, "zero:n=0..9999");
        Probe.due("for counting, as at first", p.category(false, 7, 0), "5");
        Probe.due("for order", p.category(true, 7, 0), "0");
    }

    private static void resultLimit() {
        Probe.sentence("RESULT has at most 160 characters");
        for (int length = 150; length <= 170; length++) {
            Probe p = new Probe();
            p.number("n", 1000000000000000L, 0);
            p.message(0, false, "{n}".repeat(9) + "x".repeat(length - 144));
            boolean fits = length <= 160;
            String want = fits ? String.valueOf(length) : Probe.UNSUPPORTED;
            Probe.due("format to " + length, p.format(0, false), want);
            Probe.due("size", p.object.size(), fits ? length : 0);
            Probe.due("the last one", p.object.out(length - 1), fits ? (int) 'x' : -1);
            Probe.due("behind it", p.object.out(length), -1);
        }
    }

    private static void resultAtFirst() {
        Probe.sentence("RESULT ... is empty at first");
        Probe p = new Probe();
        Probe.due("size", p.object.size(), 0);
        p.message(0, false, "abc");
        Probe.due("size, nothing written yet", p.object.size(), 0);
        Probe.due("out(0), nothing written yet", p.object.out(0), -1);
    }

    /** Cuts a message at each place: it ends too early wherever it stands in an argument. */
    private static void errorAtLength() {
        Probe.sentence("An ERROR is at a place of the text, or at its length when it ends too early");
        String text = "x{ ab , plural , offset:12 =345 { '{'y'' # } other {{c,hex}} } z";
        int typeStart = text.indexOf("plural");
        int innerTypeStart = text.indexOf("hex");
        int argumentEnd = text.indexOf("} z");
        for (int length = 0; length <= text.length(); length++) {
            String cut = text.substring(0, length);
            if (length <= 1 || length > argumentEnd) {
                Probe.messageFine(cut);
            } else if (length > typeStart && length < typeStart + 6) {
                Probe.messageError(cut, typeStart);
            } else if (length > innerTypeStart && length < innerTypeStart + 3) {
                Probe.messageError(cut, innerTypeStart);
            } else {
                Probe.messageError(cut, length);
            }
        }
        Probe.messageError("x".repeat(119) + "{", 120);
        Probe.messageError("x".repeat(118) + "{a", 120);
    }

    private static void errorAtLengthOfRules() {
        Probe.sentence("An ERROR is at a place of the text, or at its length when it ends too early");
        String[] tooEarly = {"one", "one ", "one:", "one: ", "one:n", "one:n ", "one:n%", "one:n% ",
            "one:n%2", "one:n%2 ", "one:n!", "one:n=", "one:n= ", "one:n!=", "one:n=1,",
            "one:n=1, ", "one:n=1.", "one:n=1..", "one:n=1.. ", "one:n=1 and", "one:n=1 and ",
            "one:n=1 or", "one:n=1 or ", "one:n=1;", "one:n=1; ", "one:n=1;two", "one:n=1;two:n"};
        for (String text : tooEarly) {
            Probe.rulesError(text, text.length());
        }
        Probe.rulesError("one:n=" + " ".repeat(114), 120);
        Probe.rulesError("one:n=" + "1,".repeat(57), 120);
    }

    private static void errorAtFirstWrongCharacter() {
        Probe.sentence("where nothing else is said, at the first character that can not be there");
        Probe.messageError("{?}{", 1);
        Probe.messageError("{a?}{", 2);
        Probe.messageError("{a,?}{", 3);
        Probe.messageError("{a,number?}{", 9);
        Probe.messageError("{a,plural?,}{", 9);
        Probe.messageError("{a,plural,?}{", 10);
        Probe.messageError("{a,plural,other?}{", 15);
        Probe.messageError("{a,plural,other{}?}{", 17);
        Probe.messageError("{a,plural,offset:?other{}}{", 17);
        Probe.messageError("{a,plural,=?1{}other{}}{", 11);
        Probe.messageError("{a,plural,other{}{}}{", 17);
        Probe.rulesError("?one:n=1", 0);
        Probe.rulesError("one?:n=1", 3);
        Probe.rulesError("one:?n=1", 4);
        Probe.rulesError("one:n?=1", 5);
        Probe.rulesError("one:n%?2=1", 6);
        Probe.rulesError("one:n%2?=1", 7);
        Probe.rulesError("one:n!?=1", 6);
        Probe.rulesError("one:n=?1", 6);
        Probe.rulesError("one:n=1?..2", 7);
        Probe.rulesError("one:n=1.?.2", 8);
        Probe.rulesError("one:n=1..?2", 9);
        Probe.rulesError("one:n=1..2?", 10);
        Probe.rulesError("one:n=1 ?and n=2", 8);
        Probe.rulesError("one:n=1 and?n=2", 11);
        Probe.rulesError("one:n=1;?two:n=2", 8);
    }
}
