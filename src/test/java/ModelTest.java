import java.util.NoSuchElementException;
import java.util.Random;

/** All promises: random runs of calls answer as the model does. */
public final class ModelTest {
    private static final int RUNS = 6000;
    // A format with all that is asked about its result: no other step makes more calls.
    private static final int MOST_CALLS_OF_A_STEP = 170;

    private final Random random;
    private final int run;
    private final Counted object = new Counted();
    private final Model model = new Model();
    private String lastText = "";

    private ModelTest(int run) {
        this.run = run;
        this.random = new Random(run);
    }

    /** A call, made of the object and of the model. */
    private interface Call {
        Object make();
    }

    public static void main(String[] args) {
        int runs = args.length > 0 ? Integer.parseInt(args[0]) : RUNS;
        for (int run = 0; run < runs; run++) {
            ModelTest test = new ModelTest(run);
            while (test.object.calls() <= Counted.MOST_CALLS - MOST_CALLS_OF_A_STEP) {
                test.step();
            }
        }
        Probe.finish();
    }

    private void same(String what, Call ofObject, Call ofModel) {
        Probe.due("run " + run + ", text " + lastText + ": " + what, answer(ofObject),
            answer(ofModel));
    }

    private static Object answer(Call call) {
        try {
            return call.make();
        } catch (IllegalArgumentException | IllegalStateException | NoSuchElementException
            | UnsupportedOperationException e) {
            return e.getClass().getSimpleName();
        }
    }

    private int upTo(int bound) {
        return random.nextInt(bound);
    }

    private String oneOf(String... choices) {
        return choices[upTo(choices.length)];
    }

    private void step() {
        switch (upTo(12)) {
            case 0, 1, 2 -> compile();
            case 3, 4 -> rules();
            case 5, 6 -> value();
            case 7 -> category();
            case 8 -> typeAnything();
            default -> format();
        }
        same("length", object::length, model::length);
        same("fault", object::fault, model::fault);
    }

    private void typeText(String wanted) {
        String text = wanted.substring(0, Math.min(120, wanted.length()));
        lastText = text;
        object.wipe();
        model.wipe();
        for (int k = 0; k < text.length(); k += 4) {
            int w = Probe.bytes(text.substring(k, Math.min(k + 4, text.length())));
            same("type", () -> object.type(w), () -> model.type(w));
        }
    }

    private void typeAnything() {
        int w = upTo(3) == 0 ? random.nextInt() : Probe.bytes(oneOf("", "a", "{a}", "one:", "n=1"))
            << 8 * upTo(3);
        same("type " + w, () -> object.type(w), () -> model.type(w));
    }

    private void compile() {
        if (upTo(10) != 0) {
            typeText(upTo(8) == 0 ? longMessage() : damaged(message(0)));
        }
        int slot = upTo(20) == 0 ? upTo(5) - 2 : upTo(2);
        boolean doubled = random.nextBoolean();
        same("compile " + slot + " " + doubled, () -> {
            object.compile(slot, doubled);
            return "";
        }, () -> {
            model.compile(slot, doubled);
            return "";
        });
    }

    private void rules() {
        if (upTo(10) != 0) {
            typeText(damaged(ruleText()));
        }
        boolean order = random.nextBoolean();
        same("rules " + order, () -> {
            object.rules(order);
            return "";
        }, () -> {
            model.rules(order);
            return "";
        });
    }

    /** Often the text itself, else with characters taken out, put in or cut off. */
    private String damaged(String text) {
        String damaged = text;
        while (upTo(3) == 0) {
            int place = upTo(damaged.length() + 1);
            String head = damaged.substring(0, place);
            String tail = damaged.substring(place);
            damaged = switch (upTo(4)) {
                case 0 -> head;
                case 1 -> head + (tail.isEmpty() ? "" : tail.substring(1));
                case 2 -> head + (char) (32 + upTo(95)) + tail;
                default -> head + oneOf("{", "}", "'", "#", "=", " ", "a", "1", ";", ".", "!")
                    + tail;
            };
        }
        return damaged;
    }

    private String space() {
        return upTo(6) == 0 ? " ".repeat(1 + upTo(2)) : "";
    }

    private String message(int level) {
        StringBuilder text = new StringBuilder();
        int parts = upTo(4);
        for (int k = 0; k < parts; k++) {
            text.append(switch (upTo(9)) {
                case 0, 1, 2, 3 -> argument(level);
                case 4 -> "#";
                case 5 -> oneOf("'", "''", "'{'", "'}'", "'#'", "'{''}'", "'#''", "'x'");
                case 6 -> level == 0 ? oneOf("}", "a}", "b") : "c";
                default -> oneOf("x", "y ", " ", "Hi", "z", "?", "-", "long text of letters");
            });
        }
        return text.toString();
    }

    /** One whose result comes near the limit or goes beyond it. */
    private String longMessage() {
        String repeated = oneOf("{a}", "{abcd}", "{n,number}", "{b,hex}", "{a,plural,other{#}}");
        return (message(0) + repeated.repeat(10 + upTo(30))).replaceAll("'", "");
    }

    private String name() {
        return upTo(30) == 0 ? oneOf("", "abcde", "A", "a1") : oneOf("a", "b", "n", "abcd");
    }

    private String argument(int level) {
        String start = "{" + space() + name() + space();
        String type = switch (upTo(7 + (level < 3 ? 5 : 0))) {
            case 0, 1 -> "";
            case 2 -> "number";
            case 3, 4 -> oneOf("hex", "upper");
            case 5 -> upTo(10) == 0 ? oneOf("foo", "num", "plurals") : "number";
            case 6, 7 -> "select";
            case 8 -> "selectordinal";
            default -> "plural";
        };
        if (type.isEmpty()) {
            return start + "}";
        }
        start += "," + space() + type + space();
        if (!type.startsWith("select") && !type.equals("plural")) {
            return start + "}";
        }
        start += "," + space();
        boolean select = type.equals("select");
        if (upTo(select ? 60 : 3) == 0) {
            start += "offset:" + oneOf("1", "2", "0", "12", "99", "123", "") + space();
        }
        StringBuilder text = new StringBuilder(start);
        int branches = upTo(3);
        for (int k = 0; k < branches; k++) {
            text.append(branch(selector(select), level));
        }
        if (upTo(20) != 0) {
            text.append(branch("other", level));
        }
        return text.append(upTo(8) == 0 ? branch(selector(select), level) : "").append("}")
            .toString();
    }

    private String selector(boolean select) {
        if (upTo(40) == 0) {
            return oneOf("", "abcdefg", "=", "=12345", "offset", "X");
        }
        return select ? oneOf("a", "b", "xy", "abc", "other")
            : oneOf("one", "two", "few", "many", "zero", "=0", "=1", "=2", "=12", "other");
    }

    private String branch(String selector, int level) {
        return selector + space() + "{" + message(level + 1) + "}" + space();
    }

    private String ruleText() {
        StringBuilder text = new StringBuilder(space());
        int rules = upTo(4);
        for (int k = 0; k < rules; k++) {
            text.append(k == 0 ? "" : ";").append(space());
            text.append(oneOf("zero", "one", "two", "few", "many")).append(space()).append(':');
            int relations = 1 + upTo(3);
            for (int r = 0; r < relations; r++) {
                text.append(r == 0 ? "" : oneOf(" and ", " or ", "and ", "or "));
                text.append(relation());
            }
        }
        return text.toString();
    }

    private String relation() {
        String text = space() + oneOf("n", "i", "v", "w", "f", "t") + space();
        if (upTo(3) == 0) {
            String modulus = upTo(50) == 0 ? "0" : oneOf("2", "3", "10", "100", "1", "9999", "0005");
            text += "%" + space() + modulus + space();
        }
        text += oneOf("=", "=", "!=");
        int ranges = 1 + upTo(2);
        for (int k = 0; k < ranges; k++) {
            int low = upTo(6);
            text += (k == 0 ? "" : ",") + space() + (upTo(8) == 0 ? oddNumber() : low) + space();
            if (upTo(3) == 0) {
                text += ".." + space() + (upTo(30) == 0 ? 0 : low + upTo(9)) + space();
            }
        }
        return text;
    }

    private String oddNumber() {
        return oneOf("00", "0001", "9999", "12345", "50");
    }

    private int nameBytes() {
        return upTo(15) == 0 ? random.nextInt() : Probe.bytes(oneOf("a", "b", "n", "abcd", "c",
            "d", "e", "f")) << (upTo(4) == 0 ? 8 : 0);
    }

    private long mantissa() {
        return switch (upTo(6)) {
            case 0 -> upTo(3) * 1000000000000000L - 1000000000000000L + upTo(3) - 1;
            case 1 -> random.nextLong() >> upTo(64);
            case 2 -> upTo(30) * 100L;
            case 3 -> -upTo(30);
            default -> upTo(30);
        };
    }

    private int scale() {
        return upTo(2) == 0 ? 0 : upTo(20) == 0 ? upTo(12) - 3 : upTo(7);
    }

    private void value() {
        int name = nameBytes();
        long mantissa = mantissa();
        int scale = scale();
        switch (upTo(5)) {
            case 0 -> same("drop " + name, () -> object.drop(name), () -> model.drop(name));
            case 1 -> {
                int w = upTo(10) == 0 ? random.nextInt() : Probe.bytes(oneOf("", "a", "b", "xy",
                    "abc", "A z~", "one"));
                same("word " + name + " " + w, () -> {
                    object.word(name, w);
                    return "";
                }, () -> {
                    model.word(name, w);
                    return "";
                });
            }
            default -> same("number " + name + " " + mantissa + " " + scale, () -> {
                object.number(name, mantissa, scale);
                return "";
            }, () -> {
                model.number(name, mantissa, scale);
                return "";
            });
        }
    }

    private void category() {
        boolean order = random.nextBoolean();
        long mantissa = mantissa();
        int scale = scale();
        same("category " + order + " " + mantissa + " " + scale,
            () -> object.category(order, mantissa, scale),
            () -> model.category(order, mantissa, scale));
    }

    private void format() {
        int slot = upTo(30) == 0 ? upTo(5) - 2 : upTo(2);
        boolean lenient = random.nextBoolean();
        same("format " + slot + " " + lenient, () -> object.format(slot, lenient),
            () -> model.format(slot, lenient));
        same("size", object::size, model::size);
        for (int k = -1; k <= model.size(); k++) {
            int place = k;
            same("out " + k, () -> object.out(place), () -> model.out(place));
        }
    }
}
