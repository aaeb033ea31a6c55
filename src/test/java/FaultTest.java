/** Promise 7: fault is what the latest compile or rules left. */
public final class FaultTest {
    public static void main(String[] args) {
        Probe p = new Probe();
        Probe.due("at first", p.object.fault(), PluralMessages.NONE);
        p.text("ab{cd");
        p.compile(0, false);
        Probe.due("after compile that failed", p.object.fault(), 5);
        p.object.wipe();
        p.object.type(31);
        p.number("a", 1, 9);
        p.category(false, 1, 9);
        p.format(0, false);
        p.object.size();
        Probe.due("other calls leave it alone", p.object.fault(), 5);
        p.text("x");
        p.rules(true);
        Probe.due("after rules that failed", p.object.fault(), 0);
        p.compile(0, false);
        Probe.due("after compile", p.object.fault(), -1);
        p.rules(false);
        Probe.due("after rules that failed again", p.object.fault(), 0);
        p.compile(7, false);
        Probe.due("after a wrong slot", p.object.fault(), -1);
        p.rules(false);
        p.text("");
        p.rules(false);
        Probe.due("after rules", p.object.fault(), -1);
        p.text("{");
        p.compile(1, true);
        Probe.due("at the text's end", p.object.fault(), 1);
        p.text("x".repeat(119) + "{");
        p.compile(1, true);
        Probe.due("at the end of a full text", p.object.fault(), 120);
        Probe.finish();
    }
}
