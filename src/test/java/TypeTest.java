/** Promise 2: type appends the bytes other than 0, all of them or none. */
public final class TypeTest {
    public static void main(String[] args) {
        ordinary();
        wrongBytes();
        room();
        Probe.finish();
    }

    private static void ordinary() {
        Probe p = new Probe();
        Probe.due("type of four", p.object.type(Probe.bytes("ab d")), true);
        Probe.due("type of one", p.object.type('e'), true);
        Probe.due("type with zeros between", p.object.type(0x66006700), true);
        Probe.due("type of zeros alone", p.object.type(0), true);
        Probe.due("type of the first and last character", p.object.type(0x207e), true);
        Probe.due("length", p.object.length(), 9);
        p.compile(0, false);
        p.written("ab defg ~");
    }

    private static void wrongBytes() {
        Probe p = new Probe();
        p.text("x");
        int[] wrong = {31, 127, 128, 255, 1, 0x6162631f, 0x7f616263, 0x80616263, 0xff000000, -1,
            0x61ff0062, 0x0a000000, Integer.MIN_VALUE};
        for (int w : wrong) {
            Probe.due("type(" + w + ")", p.object.type(w), false);
            Probe.due("length after type(" + w + ")", p.object.length(), 1);
        }
        p.compile(0, false);
        p.written("x");
    }

    private static void room() {
        Probe p = new Probe();
        p.text("x".repeat(118));
        Probe.due("type of three with room for two", p.object.type(Probe.bytes("abc")), false);
        Probe.due("length", p.object.length(), 118);
        Probe.due("type of two with room for two", p.object.type(0x61000062), true);
        Probe.due("length when full", p.object.length(), 120);
        Probe.due("type of one without room", p.object.type('c'), false);
        Probe.due("type of nothing without room", p.object.type(0), true);
        Probe.due("type of a wrong byte without room", p.object.type(31), false);
        p.compile(0, false);
        p.written("x".repeat(118) + "ab");
    }
}
