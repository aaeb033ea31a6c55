/** Promise 8: number puts a number under a name. */
public final class NumberTest {
    public static void main(String[] args) {
        ordinary();
        wrongNames();
        wrongNumbers();
        sevenNames();
        Probe.finish();
    }

    private static void ordinary() {
        Probe p = new Probe();
        p.message(0, false, "{a} {abcd}");
        Probe.due("one letter", p.number("a", 12, 1), Probe.NOTHING);
        Probe.due("four letters", p.number("abcd", -7, 0), Probe.NOTHING);
        p.written("1.2 -7");
        Probe.due("in place of it", p.number("a", 3, 0), Probe.NOTHING);
        p.written("3 -7");
        p.word("a", "w");
        Probe.due("in place of a word", p.number("a", 4, 2), Probe.NOTHING);
        p.written("0.04 -7");
        p.message(0, false, "{ab}");
        Probe.due("zeros between the letters", p.number(0x61006200, 5, 0), Probe.NOTHING);
        p.written("5");
        Probe.due("zeros elsewhere", p.number(0x00610062, 6, 0), Probe.NOTHING);
        p.written("6");
    }

    private static void wrongNames() {
        Probe p = new Probe();
        int[] wrong = {0, 'A', '`', '{', ' ', '1', 255, 0x61626341, 0x20616263, 0xff616263, -1,
            0x61800000, Integer.MIN_VALUE};
        for (int name : wrong) {
            Probe.due("number under " + name, p.number(name, 1, 0), Probe.ARGUMENT);
            Probe.due("drop of " + name, p.object.drop(name), false);
        }
    }

    private static void wrongNumbers() {
        Probe p = new Probe();
        long most = 1000000000000000L;
        p.message(0, false, "{a}");
        p.number("a", 1, 0);
        int[] scales = {-1, 7, Integer.MAX_VALUE, Integer.MIN_VALUE};
        for (int scale : scales) {
            Probe.due("scale " + scale, p.number("a", 2, scale), Probe.ARGUMENT);
        }
        long[] mantissas = {most + 1, -most - 1, Long.MAX_VALUE, Long.MIN_VALUE};
        for (long mantissa : mantissas) {
            Probe.due("mantissa " + mantissa, p.number("a", mantissa, 0), Probe.ARGUMENT);
        }
        p.written("1");
        Probe.due("the largest", p.number("a", most, 6), Probe.NOTHING);
        p.written("1000000000.000000");
        Probe.due("the smallest", p.number("a", -most, 0), Probe.NOTHING);
        p.written("-1000000000000000");
    }

    private static void sevenNames() {
        Probe p = new Probe();
        for (char name = 'a'; name <= 'f'; name++) {
            Probe.due("number " + name, p.number(name, name, 0), Probe.NOTHING);
        }
        Probe.due("the seventh", p.number("g", 1, 0), Probe.STATE);
        Probe.due("a wrong name first", p.number("G", 1, 0), Probe.ARGUMENT);
        Probe.due("a wrong scale first", p.number("g", 1, 7), Probe.ARGUMENT);
        Probe.due("the sixth anew", p.number("f", 1, 0), Probe.NOTHING);
        p.message(0, false, "{a} {b} {c} {d} {e} {f}");
        p.written("97 98 99 100 101 1");
        p.text("{g}");
        p.compile(0, false);
        Probe.due("the seventh is not there", p.format(0, false), Probe.ELEMENT);
        p.object.drop('c');
        Probe.due("there is room again", p.number("g", 7, 0), Probe.NOTHING);
        p.written("7");
        Probe.due("but for one alone", p.number("c", 7, 0), Probe.STATE);
    }
}
