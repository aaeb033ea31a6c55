/** Promise 3: wipe empties the text, and nothing else. */
public final class WipeTest {
    public static void main(String[] args) {
        Probe p = new Probe();
        p.object.wipe();
        Probe.due("length of an empty text", p.object.length(), 0);
        p.ruleText(false, "two:n=2").message(0, false, "x{a}");
        p.number("a", 2, 0);
        p.written("x2");
        p.text("{");
        p.compile(0, false);
        p.object.wipe();
        Probe.due("length", p.object.length(), 0);
        Probe.due("fault stays", p.object.fault(), 1);
        Probe.due("result stays", p.result(), "x2");
        Probe.due("rules stay", p.category(false, 2, 0), "2");
        p.written("x2");
        p.text("y");
        Probe.due("length of the new text", p.object.length(), 1);
        p.compile(0, false);
        p.written("y");
        p.text("x".repeat(120));
        p.object.wipe();
        Probe.due("there is room again", p.object.type('z'), true);
        Probe.due("length of one", p.object.length(), 1);
        Probe.finish();
    }
}
