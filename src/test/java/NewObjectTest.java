/** Promise 1: all is empty in a new object, and there are no values. */
public final class NewObjectTest {
    public static void main(String[] args) {
        Probe p = new Probe();
        Probe.due("NONE", PluralMessages.NONE, -1);
        Probe.due("length", p.object.length(), 0);
        Probe.due("fault", p.object.fault(), PluralMessages.NONE);
        Probe.due("size", p.object.size(), 0);
        Probe.due("out(0)", p.object.out(0), PluralMessages.NONE);
        for (int slot = 0; slot < 2; slot++) {
            Probe.due("format of an empty slot", p.format(slot, false), Probe.ARGUMENT);
            Probe.due("lenient format of an empty slot", p.format(slot, true), Probe.ARGUMENT);
        }
        Probe.due("category without rules", p.category(false, 1, 0), "5");
        Probe.due("category without rules for order", p.category(true, 1, 0), "5");
        Probe.due("drop", p.object.drop('a'), false);
        p.message(0, false, "{a}");
        Probe.due("format without values", p.format(0, false), Probe.ELEMENT);
        twoObjectsShareNothing();
        Probe.finish();
    }

    private static void twoObjectsShareNothing() {
        Probe first = new Probe();
        first.ruleText(false, "one:n=1").message(0, false, "{a}");
        first.number("a", 1, 0);
        first.written("1");
        Probe second = new Probe();
        Probe.due("length of the second", second.object.length(), 0);
        Probe.due("size of the second", second.object.size(), 0);
        Probe.due("category of the second", second.category(false, 1, 0), "5");
        Probe.due("format of the second", second.format(0, false), Probe.ARGUMENT);
        Probe.due("drop of the second", second.object.drop('a'), false);
        Probe.due("result of the first", first.result(), "1");
    }
}
