import java.util.NoSuchElementException;

/** Makes calls of a PluralMessages object short to write, and checks their answers. */
final class Probe {
    static final String ARGUMENT = "IllegalArgumentException";
    static final String ELEMENT = "NoSuchElementException";
    static final String STATE = "IllegalStateException";
    static final String UNSUPPORTED = "UnsupportedOperationException";
    static final String NOTHING = "nothing";

    private static final boolean[] BOTH = {false, true};

    private static int wrong = 0;
    private static String sentence = "";

    final Counted object = new Counted();

    /** The document's words that the answers from here on are due by. */
    static void sentence(String words) {
        sentence = "\"" + words + "\": ";
    }

    static void due(String what, Object got, Object want) {
        if (!want.equals(got)) {
            wrong++;
            System.out.println(sentence + what + " answered " + got + ", due is " + want);
        }
    }

    /** The text is a message in both modes. */
    static void messageFine(String text) {
        for (boolean doubled : BOTH) {
            new Probe().message(1, doubled, text);
        }
    }

    /** The text as a message has its error at a place, in both modes. */
    static void messageError(String text, int place) {
        for (boolean doubled : BOTH) {
            messageError(doubled, text, place);
        }
    }

    static void messageError(boolean doubled, String text, int place) {
        Probe p = new Probe();
        p.text(text);
        String what = "compile of " + text + (doubled ? ", doubled" : "");
        due(what, p.compile(0, doubled), ARGUMENT);
        due("fault of " + what, p.object.fault(), place);
        due("format after " + what, p.format(0, true), ARGUMENT);
    }

    /** The text is rules for counting and for order. */
    static void rulesFine(String text) {
        for (boolean order : BOTH) {
            new Probe().ruleText(order, text);
        }
    }

    /** The text as rules has its error at a place. */
    static void rulesError(String text, int place) {
        Probe p = new Probe();
        p.text(text);
        for (boolean order : BOTH) {
            String what = "rules of " + text + (order ? ", for order" : "");
            due(what, p.rules(order), ARGUMENT);
            due("fault of " + what, p.object.fault(), place);
        }
    }

    /** To be called at the end of each test's main. */
    static void finish() {
        if (wrong != 0) {
            System.out.println(wrong + " answers are not as due");
            System.exit(1);
        }
    }

    /** Up to four characters as the bytes of a number. */
    static int bytes(String characters) {
        int packed = 0;
        for (int k = 0; k < characters.length(); k++) {
            packed = packed << 8 | characters.charAt(k);
        }
        return packed;
    }

    /** The text becomes this one, typed four characters at a time. */
    Probe text(String wanted) {
        object.wipe();
        for (int k = 0; k < wanted.length(); k += 4) {
            String piece = wanted.substring(k, Math.min(k + 4, wanted.length()));
            due("typing " + piece, object.type(bytes(piece)), true);
        }
        return this;
    }

    String compile(int slot, boolean doubled) {
        try {
            object.compile(slot, doubled);
            return NOTHING;
        } catch (IllegalArgumentException e) {
            return ARGUMENT;
        }
    }

    String rules(boolean order) {
        try {
            object.rules(order);
            return NOTHING;
        } catch (IllegalArgumentException e) {
            return ARGUMENT;
        }
    }

    String number(int name, long mantissa, int scale) {
        try {
            object.number(name, mantissa, scale);
            return NOTHING;
        } catch (IllegalArgumentException e) {
            return ARGUMENT;
        } catch (IllegalStateException e) {
            return STATE;
        }
    }

    String number(String name, long mantissa, int scale) {
        return number(bytes(name), mantissa, scale);
    }

    String word(int name, int w) {
        try {
            object.word(name, w);
            return NOTHING;
        } catch (IllegalArgumentException e) {
            return ARGUMENT;
        } catch (IllegalStateException e) {
            return STATE;
        }
    }

    String word(String name, String characters) {
        return word(bytes(name), bytes(characters));
    }

    String category(boolean order, long mantissa, int scale) {
        try {
            return String.valueOf(object.category(order, mantissa, scale));
        } catch (IllegalArgumentException e) {
            return ARGUMENT;
        }
    }

    /** The length that format answers, or the exception's name. */
    String format(int slot, boolean lenient) {
        try {
            return String.valueOf(object.format(slot, lenient));
        } catch (IllegalArgumentException e) {
            return ARGUMENT;
        } catch (NoSuchElementException e) {
            return ELEMENT;
        } catch (IllegalStateException e) {
            return STATE;
        } catch (UnsupportedOperationException e) {
            return UNSUPPORTED;
        }
    }

    String result() {
        StringBuilder result = new StringBuilder();
        int size = object.size();
        for (int k = 0; k < size; k++) {
            result.append((char) object.out(k));
        }
        return result.toString();
    }

    /** The message compiles. */
    Probe message(int slot, boolean doubled, String pattern) {
        text(pattern);
        due("compile of " + pattern, compile(slot, doubled), NOTHING);
        due("fault after compile of " + pattern, object.fault(), PluralMessages.NONE);
        return this;
    }

    /** The rules can be read. */
    Probe ruleText(boolean order, String wanted) {
        text(wanted);
        due("rules of " + wanted, rules(order), NOTHING);
        due("fault after rules of " + wanted, object.fault(), PluralMessages.NONE);
        return this;
    }

    /** Slot 0 is written so, and format answers the length. */
    void written(String want) {
        due("format to " + want, format(0, false), String.valueOf(want.length()));
        due("the result", result(), want);
    }

    /** Slot 0 is written so when lenient. */
    void writtenLenient(String want) {
        due("lenient format to " + want, format(0, true), String.valueOf(want.length()));
        due("the lenient result", result(), want);
    }
}
