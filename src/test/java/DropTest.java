/** Promise 10: drop takes a value away and tells whether there was one. */
public final class DropTest {
    public static void main(String[] args) {
        Probe p = new Probe();
        Probe.due("drop of nothing", p.object.drop('a'), false);
        p.message(0, false, "{a}{b}{c}");
        p.number("a", 1, 0);
        p.word("b", "w");
        p.number("c", 3, 0);
        p.written("1w3");
        Probe.due("drop of a", p.object.drop('a'), true);
        Probe.due("format without a", p.format(0, false), Probe.ELEMENT);
        p.writtenLenient("{a}w3");
        Probe.due("drop of a again", p.object.drop('a'), false);
        Probe.due("drop with zeros", p.object.drop(0x62000000), true);
        p.writtenLenient("{a}{b}3");
        Probe.due("drop of the last one", p.object.drop('c'), true);
        p.writtenLenient("{a}{b}{c}");
        p.number("a", 4, 0);
        p.writtenLenient("4{b}{c}");
        int[] wrong = {0, 'A', 0x61620041, -1, Integer.MIN_VALUE};
        for (int name : wrong) {
            Probe.due("drop of " + name, p.object.drop(name), false);
        }
        p.writtenLenient("4{b}{c}");
        allSix();
        Probe.finish();
    }

    private static void allSix() {
        Probe p = new Probe();
        for (int round = 0; round < 3; round++) {
            for (char name = 'a'; name <= 'f'; name++) {
                Probe.due("number " + name, p.number(name, round, 0), Probe.NOTHING);
            }
            Probe.due("one too many", p.number("z", 1, 0), Probe.STATE);
            for (char name = 'a'; name <= 'f'; name++) {
                Probe.due("drop of " + name, p.object.drop(name), true);
            }
        }
    }
}
