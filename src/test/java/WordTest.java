/** Promise 9: word puts a word under a name. */
public final class WordTest {
    public static void main(String[] args) {
        ordinary();
        wrong();
        sevenNames();
        Probe.finish();
    }

    private static void ordinary() {
        Probe p = new Probe();
        p.message(0, false, "<{a}>");
        Probe.due("four characters", p.word("a", " Z~'"), Probe.NOTHING);
        p.written("< Z~'>");
        Probe.due("no character", p.word("a", ""), Probe.NOTHING);
        p.written("<>");
        Probe.due("zeros between", p.word('a', 0x78000079), Probe.NOTHING);
        p.written("<xy>");
        p.number("a", 1, 0);
        Probe.due("in place of a number", p.word("a", "{b}"), Probe.NOTHING);
        p.written("<{b}>");
        Probe.due("zeros in the name", p.word(0x61000000, 'q'), Probe.NOTHING);
        p.written("<q>");
    }

    private static void wrong() {
        Probe p = new Probe();
        p.message(0, false, "{a}");
        p.word("a", "old");
        int[] names = {0, 'A', 0x61626331, 0xe1000000, -1};
        for (int name : names) {
            Probe.due("word under " + name, p.word(name, 'x'), Probe.ARGUMENT);
        }
        int[] words = {31, 127, 128, 255, 0x6162631f, 0x7f616263, 0x80000000, -1};
        for (int w : words) {
            Probe.due("the word " + w, p.word('a', w), Probe.ARGUMENT);
        }
        p.written("old");
    }

    private static void sevenNames() {
        Probe p = new Probe();
        for (char name = 'a'; name <= 'f'; name++) {
            Probe.due("word " + name, p.word(name, name), Probe.NOTHING);
        }
        Probe.due("the seventh", p.word("g", "x"), Probe.STATE);
        Probe.due("a wrong word first", p.word('g', 31), Probe.ARGUMENT);
        Probe.due("one of them anew", p.word("b", "x"), Probe.NOTHING);
        p.message(0, false, "{a}{b}{c}{d}{e}{f}");
        p.written("axcdef");
        p.object.drop('a');
        Probe.due("there is room again", p.word("g", "y"), Probe.NOTHING);
        p.message(0, false, "{b}{c}{d}{e}{f}{g}");
        p.written("xcdefy");
    }
}
