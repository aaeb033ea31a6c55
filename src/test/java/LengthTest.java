/** Promise 4: length is that of the text, whatever has been done with it. */
public final class LengthTest {
    public static void main(String[] args) {
        Probe p = new Probe();
        for (int k = 1; k <= 120; k++) {
            p.object.type(' ');
            Probe.due("length", p.object.length(), k);
        }
        p.object.type(' ');
        Probe.due("length when full", p.object.length(), 120);
        p.message(0, false, "{a}b");
        Probe.due("length after compile", p.object.length(), 4);
        p.compile(2, false);
        Probe.due("length after compile of no slot", p.object.length(), 4);
        p.rules(false);
        Probe.due("length after rules that failed", p.object.length(), 4);
        p.ruleText(true, "one:n=1");
        Probe.due("length after rules", p.object.length(), 7);
        p.text("{");
        p.compile(0, false);
        Probe.due("length after compile that failed", p.object.length(), 1);
        p.format(0, true);
        Probe.due("length after format", p.object.length(), 1);
        Probe.finish();
    }
}
