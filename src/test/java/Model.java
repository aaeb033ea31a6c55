import java.math.BigDecimal;
import java.math.BigInteger;
import java.util.ArrayList;
import java.util.LinkedHashMap;
import java.util.List;
import java.util.Map;
import java.util.NoSuchElementException;
import java.util.Set;
import java.util.TreeMap;
import java.util.regex.Matcher;
import java.util.regex.Pattern;

/** The document written a second time, with the whole Java library and no eye on room. */
final class Model {
    private static final List<String> CATEGORIES =
        List.of("zero", "one", "two", "few", "many", "other");
    private static final Set<String> SIMPLE_TYPES = Set.of("number", "hex", "upper");
    private static final Set<String> BRANCHED_TYPES = Set.of("plural", "selectordinal", "select");
    private static final BigInteger MOST = BigInteger.TEN.pow(15);

    private String text = "";
    private final List<List<Part>> slots = new ArrayList<>();
    private final List<Map<String, List<List<Relation>>>> ruleSets = new ArrayList<>();
    private final Map<String, Object> values = new TreeMap<>();
    private String result = "";
    private int fault = -1;

    Model() {
        slots.add(null);
        slots.add(null);
        ruleSets.add(Map.of());
        ruleSets.add(Map.of());
    }

    /** A part is a literal, a sign (both without a type other than these words) or an argument. */
    private record Part(String type, String content, int offset, List<Branch> branches) {
    }

    private record Branch(String selector, List<Part> message) {
    }

    private record Relation(char operand, int modulus, boolean negated, List<int[]> ranges) {
    }

    private static final class Fault extends RuntimeException {
        private static final long serialVersionUID = 1L;
        final int place;

        Fault(int place) {
            this.place = place;
        }
    }

    /** Reads a text by regular expressions that match at the place it has come to. */
    private static final class Reading {
        final String text;
        int place = 0;

        Reading(String text) {
            this.text = text;
        }

        boolean at(String expression) {
            return matcher(expression).lookingAt();
        }

        String take(String expression) {
            Matcher matcher = matcher(expression);
            if (!matcher.lookingAt()) {
                throw new Fault(place);
            }
            place = matcher.end();
            return matcher.group();
        }

        String row(String letter, int most) {
            int start = place;
            String row = take(letter + "+");
            if (row.length() > most) {
                throw new Fault(start + most);
            }
            return row;
        }

        void spaces() {
            take(" *");
        }

        private Matcher matcher(String expression) {
            return Pattern.compile(expression).matcher(text).region(place, text.length());
        }
    }

    private static String unpack(int w) {
        StringBuilder characters = new StringBuilder();
        for (byte b : new byte[] {(byte) (w >> 24), (byte) (w >> 16), (byte) (w >> 8), (byte) w}) {
            if (b != 0) {
                characters.append((char) (b & 255));
            }
        }
        return characters.toString();
    }

    boolean type(int w) {
        String more = unpack(w);
        if (!more.matches("[ -~]*") || text.length() + more.length() > 120) {
            return false;
        }
        text += more;
        return true;
    }

    void wipe() {
        text = "";
    }

    int length() {
        return text.length();
    }

    int fault() {
        return fault;
    }

    void compile(int slot, boolean doubled) {
        fault = -1;
        if (slot < 0 || slot > 1) {
            throw new IllegalArgumentException();
        }
        try {
            slots.set(slot, message(new Reading(text), 0, false, doubled));
        } catch (Fault e) {
            fault = e.place;
            throw new IllegalArgumentException();
        }
    }

    private static List<Part> message(Reading r, int level, boolean signs, boolean doubled) {
        List<Part> parts = new ArrayList<>();
        String quoteStart = doubled ? "'" : signs ? "'(?=[{}#])" : "'(?=[{}])";
        while (r.place < r.text.length() && !(level > 0 && r.at("\\}"))) {
            if (r.at("''")) {
                r.take("''");
                parts.add(literal("'"));
            } else if (r.at(quoteStart)) {
                String quote = r.take("'(?:[^']|'')*+'?");
                String inside = quote.substring(1);
                // What is left after the doubled ones are gone is the one that ends the quote.
                if (inside.replace("''", "").endsWith("'")) {
                    inside = inside.substring(0, inside.length() - 1);
                }
                parts.add(literal(inside.replace("''", "'")));
            } else if (r.at("\\{")) {
                parts.add(argument(r, level, doubled));
            } else if (signs && r.at("#")) {
                r.take("#");
                parts.add(new Part("sign", "", 0, List.of()));
            } else {
                parts.add(literal(r.take(".")));
            }
        }
        return parts;
    }

    private static Part literal(String characters) {
        return new Part("literal", characters, 0, List.of());
    }

    private static Part argument(Reading r, int level, boolean doubled) {
        r.take("\\{ *");
        String name = r.row("[a-z]", 4);
        r.spaces();
        if (r.at("\\}")) {
            r.take("\\}");
            return new Part("plain", name, 0, List.of());
        }
        r.take(",");
        r.spaces();
        int typePlace = r.place;
        String type = r.take("[a-z]+");
        if (!SIMPLE_TYPES.contains(type) && !BRANCHED_TYPES.contains(type)) {
            throw new Fault(typePlace);
        }
        r.spaces();
        if (SIMPLE_TYPES.contains(type)) {
            r.take("\\}");
            return new Part(type, name, 0, List.of());
        }
        r.take(",");
        r.spaces();
        int offset = 0;
        if (!type.equals("select") && r.at("offset:")) {
            r.take("offset:");
            offset = Integer.parseInt(r.row("[0-9]", 2));
            r.spaces();
        }
        List<Branch> branches = new ArrayList<>();
        while (!r.at("\\}")) {
            branches.add(branch(r, type, level, doubled));
        }
        if (branches.stream().noneMatch(b -> b.selector.equals("other"))) {
            throw new Fault(r.place);
        }
        r.take("\\}");
        return new Part(type, name, offset, branches);
    }

    private static Branch branch(Reading r, String type, int level, boolean doubled) {
        boolean plural = !type.equals("select");
        String selector;
        if (plural && r.at("=")) {
            r.take("=");
            selector = "=" + Integer.parseInt(r.row("[0-9]", 4));
        } else {
            selector = r.row("[a-z]", 6);
        }
        r.spaces();
        if (r.at("\\{") && level + 1 > 3) {
            throw new Fault(r.place);
        }
        r.take("\\{");
        List<Part> inside = message(r, level + 1, plural, doubled);
        r.take("\\}");
        r.spaces();
        return new Branch(selector, inside);
    }

    void rules(boolean order) {
        fault = -1;
        try {
            ruleSets.set(order ? 1 : 0, ruleMap(new Reading(text)));
        } catch (Fault e) {
            fault = e.place;
            throw new IllegalArgumentException();
        }
    }

    private static Map<String, List<List<Relation>>> ruleMap(Reading r) {
        Map<String, List<List<Relation>>> map = new LinkedHashMap<>();
        r.spaces();
        if (r.place == r.text.length()) {
            return map;
        }
        while (true) {
            r.spaces();
            int wordPlace = r.place;
            String word = r.take("[a-z]+");
            if (!CATEGORIES.subList(0, 5).contains(word) || map.containsKey(word)) {
                throw new Fault(wordPlace);
            }
            r.spaces();
            r.take(":");
            map.put(word, condition(r));
            if (r.place == r.text.length()) {
                return map;
            }
            r.take(";");
        }
    }

    private static List<List<Relation>> condition(Reading r) {
        List<List<Relation>> condition = new ArrayList<>();
        condition.add(new ArrayList<>());
        while (true) {
            condition.get(condition.size() - 1).add(relation(r));
            if (!r.at("[a-z]")) {
                return condition;
            }
            if (r.take("(?:and|or)(?![a-z])").equals("or")) {
                condition.add(new ArrayList<>());
            }
        }
    }

    private static Relation relation(Reading r) {
        r.spaces();
        char operand = r.take("[nivwft](?![a-z])").charAt(0);
        r.spaces();
        int modulus = 0;
        if (r.at("%")) {
            r.take("%");
            r.spaces();
            int numberPlace = r.place;
            modulus = Integer.parseInt(r.row("[0-9]", 4));
            if (modulus == 0) {
                throw new Fault(numberPlace);
            }
            r.spaces();
        }
        boolean negated = r.at("!");
        if (negated) {
            r.take("!");
        }
        r.take("=");
        List<int[]> ranges = new ArrayList<>();
        ranges.add(range(r));
        while (r.at(",")) {
            r.take(",");
            ranges.add(range(r));
        }
        return new Relation(operand, modulus, negated, ranges);
    }

    private static int[] range(Reading r) {
        r.spaces();
        int low = Integer.parseInt(r.row("[0-9]", 4));
        int high = low;
        r.spaces();
        if (r.at("\\.")) {
            r.take("\\.");
            r.take("\\.");
            r.spaces();
            int highPlace = r.place;
            high = Integer.parseInt(r.row("[0-9]", 4));
            if (high < low) {
                throw new Fault(highPlace);
            }
            r.spaces();
        }
        return new int[] {low, high};
    }

    private static BigDecimal decimal(long mantissa, int scale) {
        if (scale < 0 || scale > 6 || BigInteger.valueOf(mantissa).abs().compareTo(MOST) > 0) {
            throw new IllegalArgumentException();
        }
        return new BigDecimal(BigInteger.valueOf(mantissa), scale);
    }

    private void put(int name, Object value) {
        String letters = unpack(name);
        if (!letters.matches("[a-z]{1,4}")) {
            throw new IllegalArgumentException();
        }
        if (!values.containsKey(letters) && values.size() == 6) {
            throw new IllegalStateException();
        }
        values.put(letters, value);
    }

    void number(int name, long mantissa, int scale) {
        put(name, decimal(mantissa, scale));
    }

    void word(int name, int w) {
        if (!unpack(w).matches("[ -~]*")) {
            throw new IllegalArgumentException();
        }
        put(name, unpack(w));
    }

    boolean drop(int name) {
        return values.remove(unpack(name)) != null;
    }

    int category(boolean order, long mantissa, int scale) {
        return CATEGORIES.indexOf(categoryName(order ? 1 : 0, decimal(mantissa, scale)));
    }

    private String categoryName(int set, BigDecimal number) {
        for (String name : CATEGORIES.subList(0, 5)) {
            List<List<Relation>> condition = ruleSets.get(set).getOrDefault(name, List.of());
            if (condition.stream()
                .anyMatch(ands -> ands.stream().allMatch(relation -> holds(relation, number)))) {
                return name;
            }
        }
        return "other";
    }

    private static boolean holds(Relation relation, BigDecimal number) {
        BigDecimal amount = operand(relation.operand, number.abs());
        if (relation.modulus != 0) {
            amount = amount.remainder(BigDecimal.valueOf(relation.modulus));
        }
        boolean found = false;
        for (int[] range : relation.ranges) {
            for (int k = range[0]; k <= range[1]; k++) {
                found |= amount.compareTo(BigDecimal.valueOf(k)) == 0;
            }
        }
        return found != relation.negated;
    }

    private static BigDecimal operand(char letter, BigDecimal n) {
        String shown = n.toPlainString();
        int point = shown.indexOf('.');
        String whole = point < 0 ? shown : shown.substring(0, point);
        String behind = point < 0 ? "" : shown.substring(point + 1);
        String bare = behind.replaceAll("0+$", "");
        return switch (letter) {
            case 'n' -> n;
            case 'i' -> new BigDecimal(whole);
            case 'v' -> BigDecimal.valueOf(behind.length());
            case 'w' -> BigDecimal.valueOf(bare.length());
            case 'f' -> new BigDecimal("0" + behind);
            default -> new BigDecimal("0" + bare);
        };
    }

    int format(int slot, boolean lenient) {
        if (slot < 0 || slot > 1 || slots.get(slot) == null) {
            throw new IllegalArgumentException();
        }
        String written = write(slots.get(slot), "", null, lenient);
        result = written;
        return result.length();
    }

    /** What has been written when the parts are written behind what was there before. */
    private String write(List<Part> parts, String before, BigDecimal sign, boolean lenient) {
        String written = before;
        for (Part part : parts) {
            if (part.type.equals("literal")) {
                written = append(written, part.content);
            } else if (part.type.equals("sign")) {
                written = append(written, grouped(sign));
            } else {
                try {
                    written = writeArgument(part, written);
                } catch (NoSuchElementException | IllegalStateException e) {
                    if (!lenient) {
                        throw e;
                    }
                    written = append(written, "{" + part.content + "}");
                }
            }
        }
        return written;
    }

    private static String append(String written, String more) {
        if (written.length() + more.length() > 160) {
            throw new UnsupportedOperationException();
        }
        return written + more;
    }

    private String writeArgument(Part part, String written) {
        Object value = values.get(part.content);
        if (value == null) {
            throw new NoSuchElementException();
        }
        String plain = value instanceof BigDecimal d ? d.toPlainString() : (String) value;
        switch (part.type) {
            case "plain":
                return append(written, plain);
            case "upper":
                return append(written, plain.toUpperCase(java.util.Locale.ROOT));
            case "select":
                return write(choose(part, plain, "other"), written, null, false);
            default:
                break;
        }
        if (!(value instanceof BigDecimal number)) {
            throw new IllegalStateException();
        }
        switch (part.type) {
            case "number":
                return append(written, grouped(number));
            case "hex":
                if (number.scale() != 0) {
                    throw new IllegalStateException();
                }
                return append(written, number.toBigInteger().toString(16));
            default:
                BigDecimal rest = number.subtract(BigDecimal.valueOf(part.offset));
                String exact = "=" + number.stripTrailingZeros().toPlainString();
                int set = part.type.equals("plural") ? 0 : 1;
                return write(choose(part, exact, categoryName(set, rest)), written, rest, false);
        }
    }

    private static List<Part> choose(Part part, String first, String second) {
        for (String selector : List.of(first, second, "other")) {
            for (Branch branch : part.branches) {
                if (branch.selector.equals(selector)) {
                    return branch.message;
                }
            }
        }
        throw new AssertionError("there is no other");
    }

    private static String grouped(BigDecimal number) {
        return String.format(java.util.Locale.ROOT, "%,." + number.scale() + "f", number);
    }

    int size() {
        return result.length();
    }

    int out(int k) {
        return k >= 0 && k < result.length() ? result.charAt(k) : -1;
    }
}
