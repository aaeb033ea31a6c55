import java.util.NoSuchElementException;

/**
 * Messages with arguments, and branches chosen by number or word.
 *
 * All rows are made in the constructor and used again, so that a call makes one small object at
 * most, and the exception that it throws.
 */
public final class PluralMessages {
    public static final int NONE = -1;

    private static final int TEXT_LIMIT = 120;
    private static final int RESULT_LIMIT = 160;
    private static final int NAME_LIMIT = 6;
    private static final int DEEPEST_LEVEL = 3;
    private static final int LARGEST_SCALE = 6;
    private static final long LARGEST_MANTISSA = 1000000000000000L;

    // A branch has three characters at least: a letter, { and }.
    private static final int BRANCH_LIMIT = TEXT_LIMIT / 3;
    // A relation has three characters at least: an operand, = and a digit.
    private static final int RELATION_LIMIT = TEXT_LIMIT / 3;
    // A range has a digit, and a comma before it or the relation's operand and sign.
    private static final int RANGE_LIMIT = TEXT_LIMIT / 2;

    private static final int FIRST_CHARACTER = 32;
    private static final int LAST_CHARACTER = 126;

    // The kinds of a message's parts; those from SELECT on have branches.
    private static final int CHARACTER = 0;
    private static final int SIGN = 1;
    private static final int PLAIN = 2;
    private static final int NUMBER = 3;
    private static final int HEX = 4;
    private static final int UPPER = 5;
    private static final int SELECT = 6;
    private static final int PLURAL = 7;
    private static final int ORDINAL = 8;

    // How the writing of a part ends.
    private static final int DONE = 0;
    private static final int MISSING = 1;
    private static final int MISFIT = 2;
    private static final int FULL = 3;

    // The letters of zero, one, two, few, many and other as bytes, the form that selectors have.
    private static final long[] CATEGORY_WORDS = {
        0x7a65726fL, 0x6f6e65L, 0x74776fL, 0x666577L, 0x6d616e79L, 0x6f74686572L
    };
    private static final int OTHER = 5;
    private static final long OTHER_WORD = 0x6f74686572L;
    // No selector is 0: one of letters is above it, one of a number below it.
    private static final long NO_SELECTOR = 0L;

    // The operands of the rules stand in the order of their letters here.
    private static final String OPERAND_LETTERS = "nivwft";
    private static final int OPERAND_N = 0;

    private static final long[] TENS = {
        1L, 10L, 100L, 1000L, 10000L, 100000L, 1000000L, 10000000L, 100000000L, 1000000000L,
        10000000000L, 100000000000L, 1000000000000L, 10000000000000L, 100000000000000L,
        1000000000000000L, 10000000000000000L, 100000000000000000L, 1000000000000000000L
    };

    private final Text text = new Text();
    private final Values values = new Values();
    private final Message[] messages = {new Message(), new Message()};
    private final RuleSet[] ruleSets = {new RuleSet(), new RuleSet()};
    // What a call reads or writes goes into these; they take their place only when it succeeds.
    private Message spareMessage = new Message();
    private RuleSet spareRuleSet = new RuleSet();
    private Output draft = new Output();
    private Output result = new Output();
    private int latestFault = NONE;

    public PluralMessages() {
    }

    public boolean type(int w) {
        int packed = packBytes(w, FIRST_CHARACTER, LAST_CHARACTER);
        return packed != NONE && text.append(packed);
    }

    public void wipe() {
        text.count = 0;
    }

    public int length() {
        return text.count;
    }

    public void compile(int slot, boolean doubled) throws IllegalArgumentException {
        latestFault = NONE;
        if (!isSlot(slot)) {
            throw new IllegalArgumentException("no such slot");
        }
        text.startReading();
        spareMessage.clear();
        new MessageReader(text, spareMessage, doubled).readMessage(0, false);
        latestFault = text.faultPlace;
        if (latestFault != NONE) {
            throw new IllegalArgumentException("the text is no message");
        }
        Message old = messages[slot];
        messages[slot] = spareMessage;
        messages[slot].filled = true;
        spareMessage = old;
    }

    public void rules(boolean order) throws IllegalArgumentException {
        text.startReading();
        spareRuleSet.clear();
        new RulesReader(text, spareRuleSet).readRules();
        latestFault = text.faultPlace;
        if (latestFault != NONE) {
            throw new IllegalArgumentException("the text has no rules");
        }
        int set = order ? 1 : 0;
        RuleSet old = ruleSets[set];
        ruleSets[set] = spareRuleSet;
        spareRuleSet = old;
    }

    public int fault() {
        return latestFault;
    }

    public void number(int name, long mantissa, int scale)
            throws IllegalArgumentException, IllegalStateException {
        int key = packName(name);
        if (key == NONE || !isNumber(mantissa, scale)) {
            throw new IllegalArgumentException("no such name or number");
        }
        if (!values.put(key, false, mantissa, scale)) {
            throw new IllegalStateException("too many names");
        }
    }

    public void word(int name, int w) throws IllegalArgumentException, IllegalStateException {
        int key = packName(name);
        int packed = packBytes(w, FIRST_CHARACTER, LAST_CHARACTER);
        if (key == NONE || packed == NONE) {
            throw new IllegalArgumentException("no such name or word");
        }
        if (!values.put(key, true, packed, 0)) {
            throw new IllegalStateException("too many names");
        }
    }

    public boolean drop(int name) {
        int key = packName(name);
        return key != NONE && values.remove(key);
    }

    public int category(boolean order, long mantissa, int scale) throws IllegalArgumentException {
        if (!isNumber(mantissa, scale)) {
            throw new IllegalArgumentException("no such number");
        }
        return ruleSets[order ? 1 : 0].categoryOf(mantissa, scale);
    }

    public int format(int slot, boolean lenient)
            throws IllegalArgumentException, NoSuchElementException, IllegalStateException,
            UnsupportedOperationException {
        if (!isSlot(slot) || !messages[slot].filled) {
            throw new IllegalArgumentException("no message there");
        }
        Message message = messages[slot];
        draft.count = 0;
        Writer writer = new Writer(message, values, ruleSets, draft, lenient);
        int outcome = writer.writeParts(0, message.parts, 0, 0L, 0);
        if (outcome == MISSING) {
            throw new NoSuchElementException("no value under a name");
        }
        if (outcome == MISFIT) {
            throw new IllegalStateException("not the number that is needed");
        }
        if (outcome == FULL) {
            throw new UnsupportedOperationException("the result is too long");
        }
        Output old = result;
        result = draft;
        draft = old;
        return result.count;
    }

    public int size() {
        return result.count;
    }

    public int out(int k) {
        return k >= 0 && k < result.count ? result.characters[k] : NONE;
    }

    private static boolean isSlot(int slot) {
        return slot == 0 || slot == 1;
    }

    private static boolean isNumber(long mantissa, int scale) {
        return scale >= 0 && scale <= LARGEST_SCALE
            && mantissa >= -LARGEST_MANTISSA && mantissa <= LARGEST_MANTISSA;
    }

    /** The bytes of w other than 0, moved together; NONE when one is not low .. high. */
    private static int packBytes(int w, int low, int high) {
        int packed = 0;
        for (int shift = 24; shift >= 0; shift -= 8) {
            int b = (w >>> shift) & 255;
            if (b != 0) {
                if (b < low || b > high) {
                    return NONE;
                }
                packed = packed << 8 | b;
            }
        }
        return packed;
    }

    private static int packName(int name) {
        int packed = packBytes(name, 'a', 'z');
        return packed == 0 ? NONE : packed;
    }

    /** 10 to the power of a scale. */
    private static long unitOf(int scale) {
        return scale >= 0 && scale < TENS.length ? TENS[scale] : 1L;
    }

    /** The selector = with a number. */
    private static long exactSelector(long number) {
        return -1L - number;
    }

    /** The typed characters, a place from which they are read, and where reading went wrong. */
    private static final class Text {
        final char[] characters = new char[TEXT_LIMIT];
        int count = 0;
        int at = 0;
        int faultPlace = NONE;

        boolean append(int packed) {
            int room = characters.length - count;
            for (int rest = packed, step = 0; rest != 0 && step < 4; rest >>>= 8, step++) {
                room--;
            }
            if (room < 0) {
                return false;
            }
            for (int shift = 24; shift >= 0; shift -= 8) {
                int b = (packed >>> shift) & 255;
                if (b != 0 && count < characters.length) {
                    characters[count] = (char) b;
                    count++;
                }
            }
            return true;
        }

        void startReading() {
            at = 0;
            faultPlace = NONE;
        }

        /** The character at a place, NONE behind the end. */
        int characterAt(int place) {
            return place >= 0 && place < count ? characters[place] : NONE;
        }

        boolean take(int character) {
            if (at < 0 || at >= count || characters[at] != character) {
                return false;
            }
            at++;
            return true;
        }

        boolean need(int character) {
            return take(character) || refuse(at);
        }

        /** Always false, so that a reader can answer with it. */
        boolean refuse(int place) {
            faultPlace = place;
            return false;
        }

        void skipSpaces() {
            at = rowEnd(' ', ' ');
        }

        /** Where the longest row of characters low .. high ends that begins here. */
        int rowEnd(char low, char high) {
            int end = at;
            while (end >= 0 && end < count && characters[end] >= low && characters[end] <= high) {
                end++;
            }
            return end;
        }

        /** Whether the row from here up to end is the word. */
        boolean isWord(String word, int end) {
            if (end - at != word.length() || end > count) {
                return false;
            }
            for (int k = 0; k < word.length(); k++) {
                if (characters[at + k] != word.charAt(k)) {
                    return false;
                }
            }
            return true;
        }

        /** Takes the row from here up to end, of eight letters at most, as bytes. */
        long takePacked(int end) {
            long packed = 0L;
            for (; at < end && at < count; at++) {
                packed = packed << 8 | characters[at];
            }
            return packed;
        }

        /** Takes a row of one to so many digits; NONE, with the fault, when there is none. */
        int takeNumber(int mostDigits) {
            int end = rowEnd('0', '9');
            if (end == at || end - at > mostDigits) {
                refuse(end == at ? at : at + mostDigits);
                return NONE;
            }
            int number = 0;
            for (; at < end && at < count; at++) {
                number = number * 10 + (characters[at] - '0');
            }
            return number;
        }
    }

    /** A message that has been read: its parts and the branches of its arguments, as read. */
    private static final class Message {
        final int[] kinds = new int[TEXT_LIMIT];
        // What a character is, or the name of an argument.
        final int[] contents = new int[TEXT_LIMIT];
        final int[] offsets = new int[TEXT_LIMIT];
        // The part behind each part, past all parts in its branches.
        final int[] nexts = new int[TEXT_LIMIT];
        int parts = 0;
        // The argument that each branch is of.
        final int[] owners = new int[BRANCH_LIMIT];
        final long[] selectors = new long[BRANCH_LIMIT];
        final int[] starts = new int[BRANCH_LIMIT];
        final int[] ends = new int[BRANCH_LIMIT];
        int branches = 0;
        boolean filled = false;

        void clear() {
            parts = 0;
            branches = 0;
        }

        int addPart(int kind, int content) {
            if (parts >= TEXT_LIMIT) {
                return NONE;
            }
            int part = parts;
            kinds[part] = kind;
            contents[part] = content;
            offsets[part] = 0;
            parts++;
            nexts[part] = parts;
            return part;
        }

        boolean isPart(int part) {
            return part >= 0 && part < parts;
        }

        int addBranch(int owner, long selector) {
            if (branches >= BRANCH_LIMIT) {
                return NONE;
            }
            int branch = branches;
            owners[branch] = owner;
            selectors[branch] = selector;
            starts[branch] = parts;
            ends[branch] = parts;
            branches++;
            return branch;
        }

        void closeBranch(int branch) {
            if (branch >= 0 && branch < branches) {
                ends[branch] = parts;
            }
        }

        void closeArgument(int part) {
            if (isPart(part)) {
                nexts[part] = parts;
            }
        }

        /** The first branch of an argument with a selector, NONE when it has none. */
        int branchWith(int owner, long selector) {
            for (int branch = 0; branch < branches; branch++) {
                if (owners[branch] == owner && selectors[branch] == selector) {
                    return branch;
                }
            }
            return NONE;
        }
    }

    /** Reads the text as a message. */
    private static final class MessageReader {
        private final Text text;
        private final Message message;
        private final boolean doubled;

        MessageReader(Text text, Message message, boolean doubled) {
            this.text = text;
            this.message = message;
            this.doubled = doubled;
        }

        /** Reads up to the end of the text, or in a branch up to a }. */
        boolean readMessage(int level, boolean signs) {
            for (int step = 0; step < TEXT_LIMIT; step++) {
                int c = text.characterAt(text.at);
                if (c == NONE || (c == '}' && level > 0)) {
                    return true;
                }
                if (c == '\'') {
                    readApostrophe(signs);
                } else {
                    text.at++;
                    if (c == '{') {
                        if (!readArgument(level)) {
                            return false;
                        }
                    } else {
                        message.addPart(c == '#' && signs ? SIGN : CHARACTER, c);
                    }
                }
            }
            return true;
        }

        private void readApostrophe(boolean signs) {
            text.at++;
            int next = text.characterAt(text.at);
            if (next == '\'') {
                text.at++;
                message.addPart(CHARACTER, '\'');
            } else if (doubled || next == '{' || next == '}' || (next == '#' && signs)) {
                readQuote();
            } else {
                message.addPart(CHARACTER, '\'');
            }
        }

        private void readQuote() {
            for (int step = 0; step < TEXT_LIMIT; step++) {
                int c = text.characterAt(text.at);
                if (c == NONE) {
                    return;
                }
                text.at++;
                if (c == '\'' && !text.take('\'')) {
                    return;
                }
                message.addPart(CHARACTER, c);
            }
        }

        /** Reads an argument from behind its {. */
        private boolean readArgument(int level) {
            text.skipSpaces();
            int name = readName();
            if (name == NONE) {
                return false;
            }
            text.skipSpaces();
            if (text.take('}')) {
                message.addPart(PLAIN, name);
                return true;
            }
            if (!text.need(',')) {
                return false;
            }
            text.skipSpaces();
            int kind = readType();
            if (kind == NONE) {
                return false;
            }
            text.skipSpaces();
            int part = message.addPart(kind, name);
            if (kind < SELECT) {
                return text.need('}');
            }
            return text.need(',') && readBranches(part, kind, level);
        }

        private int readName() {
            int end = text.rowEnd('a', 'z');
            int letters = end - text.at;
            if (letters == 0 || letters > 4) {
                text.refuse(letters == 0 ? text.at : text.at + 4);
                return NONE;
            }
            return (int) text.takePacked(end);
        }

        private int readType() {
            int end = text.rowEnd('a', 'z');
            int kind = kindOfType(end);
            if (kind == NONE) {
                text.refuse(text.at);
            } else {
                text.at = end;
            }
            return kind;
        }

        private int kindOfType(int end) {
            if (text.isWord("number", end)) {
                return NUMBER;
            }
            if (text.isWord("hex", end)) {
                return HEX;
            }
            if (text.isWord("upper", end)) {
                return UPPER;
            }
            if (text.isWord("select", end)) {
                return SELECT;
            }
            if (text.isWord("plural", end)) {
                return PLURAL;
            }
            return text.isWord("selectordinal", end) ? ORDINAL : NONE;
        }

        /** Reads from behind the second comma of an argument to its end. */
        private boolean readBranches(int part, int kind, int level) {
            text.skipSpaces();
            if (kind != SELECT && !readOffset(part)) {
                return false;
            }
            text.skipSpaces();
            for (int step = 0; step < BRANCH_LIMIT && text.characterAt(text.at) != '}'; step++) {
                if (!readBranch(part, kind, level)) {
                    return false;
                }
            }
            if (message.branchWith(part, OTHER_WORD) == NONE) {
                return text.refuse(text.at);
            }
            message.closeArgument(part);
            return text.need('}');
        }

        /** Without a colon at once behind it, offset is a selector like any other word. */
        private boolean readOffset(int part) {
            int end = text.rowEnd('a', 'z');
            if (!text.isWord("offset", end) || text.characterAt(end) != ':') {
                return true;
            }
            text.at = end + 1;
            int offset = text.takeNumber(2);
            if (offset == NONE) {
                return false;
            }
            if (message.isPart(part)) {
                message.offsets[part] = offset;
            }
            return true;
        }

        private boolean readBranch(int part, int kind, int level) {
            long selector = readSelector(kind != SELECT);
            if (selector == NO_SELECTOR) {
                return false;
            }
            text.skipSpaces();
            if (text.characterAt(text.at) != '{' || level >= DEEPEST_LEVEL) {
                return text.refuse(text.at);
            }
            text.at++;
            int branch = message.addBranch(part, selector);
            if (!readMessage(level + 1, kind != SELECT)) {
                return false;
            }
            message.closeBranch(branch);
            if (!text.need('}')) {
                return false;
            }
            text.skipSpaces();
            return true;
        }

        private long readSelector(boolean numbersToo) {
            if (numbersToo && text.take('=')) {
                int number = text.takeNumber(4);
                return number == NONE ? NO_SELECTOR : exactSelector(number);
            }
            int end = text.rowEnd('a', 'z');
            int letters = end - text.at;
            if (letters == 0 || letters > 6) {
                text.refuse(letters == 0 ? text.at : text.at + 6);
                return NO_SELECTOR;
            }
            return text.takePacked(end);
        }
    }

    /** The operands of one number. */
    private static final class Operands {
        // In the order of OPERAND_LETTERS; n is in parts of the unit, all others are whole.
        final long[] amounts = new long[6];
        long unit = 1L;

        void fill(long mantissa, int scale) {
            long magnitude = mantissa < 0 ? -mantissa : mantissa;
            unit = Math.max(1L, unitOf(scale));
            long fraction = magnitude % unit;
            long shortFraction = fraction;
            int shortScale = scale;
            while (shortScale > 0 && shortFraction % 10 == 0) {
                shortFraction /= 10;
                shortScale--;
            }
            amounts[0] = magnitude;
            amounts[1] = magnitude / unit;
            amounts[2] = scale;
            amounts[3] = shortScale;
            amounts[4] = fraction;
            amounts[5] = shortFraction;
        }
    }

    /** Rules that have been read: each category's condition as a row of relations. */
    private static final class RuleSet {
        // A category has the relations first .. end - 1; without a rule there are none.
        final int[] firsts = new int[OTHER];
        final int[] ends = new int[OTHER];
        final int[] operands = new int[RELATION_LIMIT];
        // 0 for a relation without %.
        final int[] moduli = new int[RELATION_LIMIT];
        final boolean[] negated = new boolean[RELATION_LIMIT];
        // Whether a relation begins an ands; otherwise it goes on with the one before it.
        final boolean[] opening = new boolean[RELATION_LIMIT];
        final int[] firstRanges = new int[RELATION_LIMIT];
        final int[] rangeEnds = new int[RELATION_LIMIT];
        int relations = 0;
        final int[] lows = new int[RANGE_LIMIT];
        final int[] highs = new int[RANGE_LIMIT];
        int ranges = 0;
        private final Operands number = new Operands();

        void clear() {
            relations = 0;
            ranges = 0;
            for (int category = 0; category < OTHER; category++) {
                firsts[category] = 0;
                ends[category] = 0;
            }
        }

        boolean hasRule(int category) {
            return category >= 0 && category < OTHER && firsts[category] < ends[category];
        }

        /** Gives a category the relations from first on. */
        void closeRule(int category, int first) {
            if (category >= 0 && category < OTHER) {
                firsts[category] = first;
                ends[category] = relations;
            }
        }

        void addRelation(int operand, int modulus, boolean isNegated, boolean isOpening) {
            if (relations < RELATION_LIMIT) {
                operands[relations] = operand;
                moduli[relations] = modulus;
                negated[relations] = isNegated;
                opening[relations] = isOpening;
                firstRanges[relations] = ranges;
                rangeEnds[relations] = ranges;
                relations++;
            }
        }

        /** Gives the latest relation one more range. */
        void addRange(int low, int high) {
            if (ranges < RANGE_LIMIT && relations > 0) {
                lows[ranges] = low;
                highs[ranges] = high;
                ranges++;
                rangeEnds[relations - 1] = ranges;
            }
        }

        int categoryOf(long mantissa, int scale) {
            number.fill(mantissa, scale);
            for (int category = 0; category < OTHER; category++) {
                if (hasRule(category) && conditionHolds(firsts[category], ends[category])) {
                    return category;
                }
            }
            return OTHER;
        }

        private boolean conditionHolds(int first, int end) {
            boolean andsHolds = false;
            for (int relation = first; relation < end && relation < relations; relation++) {
                if (opening[relation]) {
                    if (andsHolds) {
                        return true;
                    }
                    andsHolds = true;
                }
                andsHolds = andsHolds && relationHolds(relation);
            }
            return andsHolds;
        }

        private boolean relationHolds(int relation) {
            int operand = operands[relation];
            if (operand < 0 || operand >= number.amounts.length) {
                return false;
            }
            long unit = operand == OPERAND_N ? number.unit : 1L;
            long amount = number.amounts[operand];
            long divisor = moduli[relation] * unit;
            if (divisor > 0L) {
                amount %= divisor;
            }
            boolean found = false;
            if (unit > 0L && amount % unit == 0L) {
                long whole = amount / unit;
                int end = rangeEnds[relation];
                for (int r = firstRanges[relation]; r >= 0 && r < end && r < ranges; r++) {
                    found = found || (whole >= lows[r] && whole <= highs[r]);
                }
            }
            return found != negated[relation];
        }
    }

    /** Reads the text as rules. */
    private static final class RulesReader {
        private final Text text;
        private final RuleSet target;

        RulesReader(Text text, RuleSet target) {
            this.text = text;
            this.target = target;
        }

        void readRules() {
            text.skipSpaces();
            boolean more = text.characterAt(text.at) != NONE;
            for (int step = 0; step < TEXT_LIMIT && more; step++) {
                more = readRule() && text.characterAt(text.at) != NONE && text.need(';');
            }
        }

        private boolean readRule() {
            text.skipSpaces();
            int category = readCategory();
            if (category == NONE) {
                return false;
            }
            text.skipSpaces();
            if (!text.need(':')) {
                return false;
            }
            int first = target.relations;
            if (!readCondition()) {
                return false;
            }
            target.closeRule(category, first);
            return true;
        }

        private int readCategory() {
            int place = text.at;
            int end = text.rowEnd('a', 'z');
            if (end - place <= 4) {
                long letters = text.takePacked(end);
                for (int category = 0; category < OTHER; category++) {
                    if (CATEGORY_WORDS[category] == letters && !target.hasRule(category)) {
                        return category;
                    }
                }
            }
            text.refuse(place);
            return NONE;
        }

        /** Reads relations up to what is neither and nor or, and the spaces behind them. */
        private boolean readCondition() {
            boolean opening = true;
            for (int step = 0; step < TEXT_LIMIT; step++) {
                if (!readRelation(opening)) {
                    return false;
                }
                int end = text.rowEnd('a', 'z');
                if (end == text.at) {
                    return true;
                }
                opening = text.isWord("or", end);
                if (!opening && !text.isWord("and", end)) {
                    return text.refuse(text.at);
                }
                text.at = end;
            }
            return text.refuse(text.at);
        }

        private boolean readRelation(boolean opening) {
            text.skipSpaces();
            int operand = readOperand();
            if (operand == NONE) {
                return false;
            }
            text.skipSpaces();
            int modulus = 0;
            if (text.take('%')) {
                modulus = readModulus();
                if (modulus == NONE) {
                    return false;
                }
            }
            boolean negated = text.take('!');
            if (!text.need('=')) {
                return false;
            }
            target.addRelation(operand, modulus, negated, opening);
            for (int step = 0; step < RANGE_LIMIT; step++) {
                if (!readRange()) {
                    return false;
                }
                if (!text.take(',')) {
                    return true;
                }
            }
            return text.refuse(text.at);
        }

        private int readOperand() {
            int end = text.rowEnd('a', 'z');
            int operand = NONE;
            if (end - text.at == 1) {
                operand = OPERAND_LETTERS.indexOf((char) text.characterAt(text.at));
            }
            if (operand < 0) {
                text.refuse(text.at);
                return NONE;
            }
            text.at = end;
            return operand;
        }

        private int readModulus() {
            text.skipSpaces();
            int place = text.at;
            int modulus = text.takeNumber(4);
            if (modulus == 0) {
                text.refuse(place);
                return NONE;
            }
            text.skipSpaces();
            return modulus;
        }

        /** Reads a range with the spaces before and behind it. */
        private boolean readRange() {
            text.skipSpaces();
            int low = text.takeNumber(4);
            if (low == NONE) {
                return false;
            }
            int high = low;
            text.skipSpaces();
            if (text.take('.')) {
                if (!text.need('.')) {
                    return false;
                }
                text.skipSpaces();
                int place = text.at;
                high = text.takeNumber(4);
                if (high == NONE) {
                    return false;
                }
                if (high < low) {
                    return text.refuse(place);
                }
                text.skipSpaces();
            }
            target.addRange(low, high);
            return true;
        }
    }

    /** A number or a word under a name. */
    private static final class Value {
        int name = 0;
        boolean isWord = false;
        // The mantissa of a number, or the characters of a word as bytes.
        long content = 0L;
        int scale = 0;
    }

    /** The values under their names, the first ones of the row. */
    private static final class Values {
        private final Value[] row = {
            new Value(), new Value(), new Value(), new Value(), new Value(), new Value()
        };
        private int count = 0;

        private int placeOf(int name) {
            for (int k = 0; k < count && k < NAME_LIMIT; k++) {
                if (row[k].name == name) {
                    return k;
                }
            }
            return NONE;
        }

        Value find(int name) {
            int place = placeOf(name);
            return place == NONE ? null : row[place];
        }

        /** False, changing nothing, when there is no room for one more name. */
        boolean put(int name, boolean isWord, long content, int scale) {
            int place = placeOf(name);
            if (place == NONE) {
                if (count >= NAME_LIMIT) {
                    return false;
                }
                place = count;
                count++;
            }
            Value value = row[place];
            value.name = name;
            value.isWord = isWord;
            value.content = content;
            value.scale = scale;
            return true;
        }

        boolean remove(int name) {
            int place = placeOf(name);
            if (place == NONE) {
                return false;
            }
            count--;
            Value removed = row[place];
            row[place] = row[count];
            row[count] = removed;
            return true;
        }
    }

    /** Characters that have been written; what writes answers DONE or FULL. */
    private static final class Output {
        final char[] characters = new char[RESULT_LIMIT];
        int count = 0;

        int put(int character) {
            if (count < 0 || count >= RESULT_LIMIT) {
                return FULL;
            }
            characters[count] = (char) character;
            count++;
            return DONE;
        }

        int putPacked(long packed, boolean upper) {
            int outcome = DONE;
            for (int shift = 24; shift >= 0 && outcome == DONE; shift -= 8) {
                int c = (int) (packed >>> shift) & 255;
                if (c != 0) {
                    outcome = put(upper && c >= 'a' && c <= 'z' ? c - 'a' + 'A' : c);
                }
            }
            return outcome;
        }

        int putNumber(long mantissa, int scale, boolean grouped) {
            long magnitude = mantissa < 0 ? -mantissa : mantissa;
            long unit = Math.max(1L, unitOf(scale));
            int outcome = mantissa < 0 ? put('-') : DONE;
            if (outcome == DONE) {
                outcome = putDigits(magnitude / unit, 1, grouped);
            }
            if (outcome == DONE && scale > 0) {
                outcome = put('.');
                if (outcome == DONE) {
                    outcome = putDigits(magnitude % unit, scale, false);
                }
            }
            return outcome;
        }

        /** Writes a number with zeros before it up to so many digits. */
        private int putDigits(long number, int fewest, boolean grouped) {
            int digits = fewest;
            while (digits < TENS.length && number >= TENS[digits]) {
                digits++;
            }
            int outcome = DONE;
            for (int k = digits - 1; k >= 0 && k < TENS.length && outcome == DONE; k--) {
                outcome = put((int) (number / TENS[k] % 10L) + '0');
                if (grouped && k > 0 && k % 3 == 0 && outcome == DONE) {
                    outcome = put(',');
                }
            }
            return outcome;
        }

        int putHex(long number) {
            long magnitude = number < 0 ? -number : number;
            int outcome = number < 0 ? put('-') : DONE;
            for (int shift = 60; shift >= 0 && outcome == DONE; shift -= 4) {
                if (shift == 0 || magnitude >>> shift != 0L) {
                    int digit = (int) (magnitude >>> shift) & 15;
                    outcome = put(digit < 10 ? digit + '0' : digit - 10 + 'a');
                }
            }
            return outcome;
        }
    }

    /** Writes a message with the values that are there. */
    private static final class Writer {
        private final Message message;
        private final Values values;
        private final RuleSet[] ruleSets;
        private final Output output;
        private final boolean lenient;

        Writer(Message message, Values values, RuleSet[] ruleSets, Output output, boolean lenient) {
            this.message = message;
            this.values = values;
            this.ruleSets = ruleSets;
            this.output = output;
            this.lenient = lenient;
        }

        /** Writes the parts start .. end - 1, with the number that a sign among them stands for. */
        int writeParts(int start, int end, int level, long signMantissa, int signScale) {
            int outcome = DONE;
            int part = start;
            for (int step = 0; step < TEXT_LIMIT && outcome == DONE; step++) {
                if (part >= end || !message.isPart(part)) {
                    return DONE;
                }
                int kind = message.kinds[part];
                if (kind == CHARACTER) {
                    outcome = output.put(message.contents[part]);
                } else if (kind == SIGN) {
                    outcome = output.putNumber(signMantissa, signScale, true);
                } else {
                    outcome = writeArgument(part, kind, level);
                }
                part = message.nexts[part];
            }
            return outcome;
        }

        private int writeArgument(int part, int kind, int level) {
            int before = output.count;
            int outcome = writeValue(part, kind, level);
            if (lenient && level == 0 && (outcome == MISSING || outcome == MISFIT)) {
                output.count = before;
                outcome = writeBareName(message.contents[part]);
            }
            return outcome;
        }

        private int writeBareName(int name) {
            int outcome = output.put('{');
            if (outcome == DONE) {
                outcome = output.putPacked(name, false);
            }
            return outcome == DONE ? output.put('}') : outcome;
        }

        private int writeValue(int part, int kind, int level) {
            Value value = values.find(message.contents[part]);
            if (value == null) {
                return MISSING;
            }
            if (kind == SELECT) {
                return writeSelect(part, value, level);
            }
            boolean numberNeeded = kind != PLAIN && kind != UPPER;
            if (value.isWord) {
                return numberNeeded ? MISFIT : output.putPacked(value.content, kind == UPPER);
            }
            if (kind == HEX) {
                return value.scale == 0 ? output.putHex(value.content) : MISFIT;
            }
            if (kind == PLURAL || kind == ORDINAL) {
                return writePlural(part, value, level);
            }
            return output.putNumber(value.content, value.scale, kind == NUMBER);
        }

        /** A number is never the selector: it begins with a digit or a minus when it is plain. */
        private int writeSelect(int part, Value value, int level) {
            int branch = NONE;
            if (value.isWord) {
                branch = message.branchWith(part, value.content);
            }
            if (branch == NONE) {
                branch = message.branchWith(part, OTHER_WORD);
            }
            return writeBranch(branch, level, 0L, 0);
        }

        private int writePlural(int part, Value value, int level) {
            long unit = unitOf(value.scale);
            long rest = value.content - message.offsets[part] * unit;
            int branch = NONE;
            if (unit > 0L && value.content >= 0L && value.content % unit == 0L) {
                branch = message.branchWith(part, exactSelector(value.content / unit));
            }
            if (branch == NONE) {
                int set = message.kinds[part] == ORDINAL ? 1 : 0;
                int category = ruleSets[set].categoryOf(rest, value.scale);
                branch = message.branchWith(part, CATEGORY_WORDS[category]);
            }
            if (branch == NONE) {
                branch = message.branchWith(part, OTHER_WORD);
            }
            return writeBranch(branch, level, rest, value.scale);
        }

        private int writeBranch(int branch, int level, long signMantissa, int signScale) {
            if (branch < 0 || branch >= message.branches || level >= DEEPEST_LEVEL) {
                return DONE;
            }
            int start = message.starts[branch];
            int end = message.ends[branch];
            return writeParts(start, end, level + 1, signMantissa, signScale);
        }
    }
}
