/** Promise 14: out is a character of the result, NONE when there is none. */
public final class OutTest {
    public static void main(String[] args) {
        Probe p = new Probe();
        int[] none = {-1, 0, 1, 160, Integer.MIN_VALUE, Integer.MAX_VALUE};
        for (int k : none) {
            Probe.due("out(" + k + ") at first", p.object.out(k), PluralMessages.NONE);
        }
        p.message(0, false, "abcde");
        p.written("abcde");
        for (int k = 0; k < 5; k++) {
            Probe.due("out(" + k + ")", p.object.out(k), 'a' + k);
        }
        Probe.due("out(5)", p.object.out(5), PluralMessages.NONE);
        Probe.due("out(-1)", p.object.out(-1), PluralMessages.NONE);
        p.message(0, false, "xy");
        Probe.due("out(0) before format", p.object.out(0), (int) 'a');
        p.written("xy");
        Probe.due("out(2) of a shorter result", p.object.out(2), PluralMessages.NONE);
        p.message(0, false, "{w}".repeat(40));
        Probe.due("format that fails", p.format(0, false), Probe.ELEMENT);
        Probe.due("out(1) after it", p.object.out(1), (int) 'y');
        p.word("w", " ~'#");
        p.written(" ~'#".repeat(40));
        Probe.due("out(159)", p.object.out(159), (int) '#');
        Probe.due("out(160)", p.object.out(160), PluralMessages.NONE);
        Probe.finish();
    }
}
