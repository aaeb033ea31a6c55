/** Promise 13: size is the length of the result. */
public final class SizeTest {
    public static void main(String[] args) {
        Probe p = new Probe();
        Probe.due("size at first", p.object.size(), 0);
        p.message(0, false, "abc{a}");
        Probe.due("size before format", p.object.size(), 0);
        Probe.due("format that fails", p.format(0, false), Probe.ELEMENT);
        Probe.due("size after it", p.object.size(), 0);
        Probe.due("lenient format", p.format(0, true), "6");
        Probe.due("size after lenient format", p.object.size(), 6);
        p.word("a", "wxyz");
        Probe.due("size before format", p.object.size(), 6);
        Probe.due("format", p.format(0, false), "7");
        Probe.due("size", p.object.size(), 7);
        p.object.wipe();
        Probe.due("size after wipe", p.object.size(), 7);
        p.compile(0, false);
        Probe.due("size after compile", p.object.size(), 7);
        Probe.due("format of an empty message", p.format(0, false), "0");
        Probe.due("size of an empty result", p.object.size(), 0);
        p.message(0, false, "{a}".repeat(40));
        p.format(0, false);
        Probe.due("the largest size", p.object.size(), 160);
        Probe.finish();
    }
}
