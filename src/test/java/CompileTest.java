/** Promise 5: compile makes the text a slot's message, or tells the place of its error. */
public final class CompileTest {
    public static void main(String[] args) {
        slots();
        names();
        types();
        branches();
        selectors();
        offsets();
        levels();
        endsOfBranches();
        failureChangesNothing();
        allThatFits();
        nothingOfAnEarlierMessage();
        Probe.finish();
    }

    private static void error(String text, int place) {
        Probe.messageError(text, place);
    }

    private static void fine(String text) {
        Probe.messageFine(text);
    }

    private static void slots() {
        int[] none = {-1, 2, 3, Integer.MIN_VALUE, Integer.MAX_VALUE};
        for (int slot : none) {
            Probe p = new Probe();
            p.text("{");
            p.compile(0, false);
            Probe.due("fault before", p.object.fault(), 1);
            Probe.due("compile of slot " + slot, p.compile(slot, false), Probe.ARGUMENT);
            Probe.due("fault of slot " + slot, p.object.fault(), -1);
        }
        Probe p = new Probe();
        Probe.due("compile of an empty text", p.compile(1, false), Probe.NOTHING);
        Probe.due("format of an empty message", p.format(1, false), "0");
        Probe.due("format of the other slot", p.format(0, false), Probe.ARGUMENT);
        p.message(0, false, "a").message(1, false, "b");
        p.written("a");
        p.format(1, false);
        Probe.due("slot 1", p.result(), "b");
        p.message(1, false, "c").message(1, false, "d").message(0, true, "e");
        p.written("e");
        p.format(1, false);
        Probe.due("slot 1 again", p.result(), "d");
        p.object.type('f');
        p.written("e");
        Probe.due("the text goes on", p.object.length(), 2);
    }

    private static void names() {
        fine("{a}");
        fine("{abcd}");
        fine("{  abcd  }");
        error("{", 1);
        error("x{", 2);
        error("{  ", 3);
        error("{}", 1);
        error("{ }", 2);
        error("{abcde}", 5);
        error("{abcdefgh", 5);
        error("{a b}", 3);
        error("{aB}", 2);
        error("{A}", 1);
        error("{1}", 1);
        error("{a1}", 2);
        error("{a", 2);
        error("{a ", 3);
        error("{{a}}", 1);
        error("{a{", 2);
        error("{'a'}", 1);
        error("{,number}", 1);
        error("{`}", 1);
        error("{a}}{", 5);
    }

    private static void types() {
        fine("{a,number}");
        fine("{a,hex}");
        fine("{a,upper}");
        fine("{ a , number }{ a,hex }{a ,upper }");
        error("{a,", 3);
        error("{a,}", 3);
        error("{a, }", 4);
        error("{a, 1}", 4);
        error("{a,,}", 3);
        error("{a,num", 3);
        error("{a,xumber}", 3);
        error("{a,numbex}", 3);
        error("{a,  numbers}", 5);
        error("{a,Number}", 3);
        error("{a,numBer}", 3);
        error("{a,nu mber}", 3);
        error("{a,plurals,other{}}", 3);
        error("{a,selectordina,other{}}", 3);
        error("{a,other}", 3);
        error("{a,number", 9);
        error("{a,number ", 10);
        error("{a,number,}", 9);
        error("{a,number,other{}}", 9);
        error("{a,hex ,other{}}", 7);
        error("{a,upper x}", 9);
        error("{a,plural}", 9);
        error("{a,select }", 10);
        error("{a,selectordinal", 16);
        error("{a,select other{}}", 10);
    }

    private static void branches() {
        fine("{a,select,other{}}");
        fine("{a,select,x{}other{}}");
        fine("{a,select,other{}x{}}");
        fine("{a,select,x{}x{}other{}other{}}");
        fine("{ a , select , x { } other { } }");
        fine("{a,plural,foo{}other{}}");
        fine("{a,selectordinal,=1{}=1{}other{}}");
        error("{a,select,}", 10);
        error("{a,plural,  }", 12);
        error("{a,plural,one{x}}", 16);
        error("{a,plural,one{x} }", 17);
        error("{a,plural,one{{b,select,other{}}}}", 33);
        error("{a,plural,other{{b,select,x{}}}}", 29);
        error("{a,select,", 10);
        error("{a,select,other", 15);
        error("{a,select,other{", 16);
        error("{a,select,other{x", 17);
        error("{a,select,other{x}", 18);
        error("{a,select,other{x} ", 19);
        error("{a,select,other x{}}", 16);
        error("{a,select,other}", 15);
        error("{a,select,{x}other{}}", 10);
        error("{a,select,other{},x{}}", 17);
        error("{a,select,other{}}{b", 20);
        error("{a,select,other{{}}}", 17);
        error("{a,select,other{{b,foo}}}", 19);
    }

    private static void selectors() {
        fine("{a,select,abcdef{}other{}}");
        error("{a,select,abcdefg{}other{}}", 16);
        error("{a,select,abcdefghijk", 16);
        error("{a,select,aB{}other{}}", 11);
        error("{a,select,=1{}other{}}", 10);
        error("{a,select,a1{}other{}}", 11);
        error("{a,plural,1{}other{}}", 10);
        fine("{a,plural,=1234{}other{}}");
        fine("{a,plural,=0000{}=0{}other{}}");
        error("{a,plural,=12345{}other{}}", 15);
        error("{a,plural,={}other{}}", 11);
        error("{a,plural,= 1{}other{}}", 11);
        error("{a,plural,=", 11);
        error("{a,plural,=a{}other{}}", 11);
        error("{a,plural,=1a{}other{}}", 12);
        error("{a,plural,=-1{}other{}}", 11);
        error("{a,plural,=1=2{}other{}}", 12);
        error("{a,plural,one=1{}other{}}", 13);
    }

    private static void offsets() {
        fine("{a,plural,offset:1 other{}}");
        fine("{a,plural,offset:12other{}}");
        fine("{a,selectordinal, offset:00=1{}other{}}");
        fine("{a,plural,offset{}other{}}");
        fine("{a,plural,offset {}other{}}");
        fine("{a,plural,offset:1offset{}other{}}");
        fine("{a,select,offset{}other{}}");
        error("{a,plural,offset:123 other{}}", 19);
        error("{a,plural,offset: 1 other{}}", 17);
        error("{a,plural,offset:other{}}", 17);
        error("{a,plural,offset:", 17);
        error("{a,plural,offset", 16);
        error("{a,plural,offset :1 other{}}", 17);
        error("{a,plural,offset:-1 other{}}", 17);
        error("{a,plural,offset:1}", 18);
        error("{a,plural,offset:1", 18);
        error("{a,plural,offset:1 offset:1 other{}}", 25);
        error("{a,plural,other{}offset:1}", 23);
        error("{a,plural,offsets:1 other{}}", 16);
        error("{a,select,offset:1 other{}}", 16);
    }

    private static void levels() {
        String open = "{a,select,other{";
        fine(open.repeat(3) + "x" + "}}".repeat(3));
        fine(open.repeat(3) + "{b}" + "}}".repeat(3));
        error(open.repeat(4) + "x" + "}}".repeat(4), 63);
        error("{a,plural,other{{b,select,x{{c,plural,=1{{d,select,y  {z}other{}}}other{}}}other{}}}}",
            54);
        error(open.repeat(3) + "{d,select,}" + "}}".repeat(3), 58);
    }

    private static void endsOfBranches() {
        fine("} }a}");
        fine("{a,select,other{}}}}");
        fine("{a,select,other{'}'}}");
        fine("{a,select,other{''}}");
        error("{a,select,other{'}}", 19);
        error("{a,select,other{'{}}", 20);
        error("{a,select,other{'}''}}", 22);
        Probe p = new Probe();
        String text = "{a,plural,other{'#}}";
        p.text(text);
        Probe.due("compile of " + text, p.compile(0, false), Probe.ARGUMENT);
        Probe.due("fault of " + text, p.object.fault(), 20);
        String apostrophe = "{a,select,other{'#}}";
        p.message(0, false, apostrophe).text(apostrophe);
        Probe.due("doubled compile of " + apostrophe, p.compile(0, true), Probe.ARGUMENT);
        Probe.due("doubled fault of " + apostrophe, p.object.fault(), 20);
    }

    private static void failureChangesNothing() {
        Probe p = new Probe();
        p.message(0, false, "a{b,select,x{1}other{2}}");
        p.word("b", "x");
        p.written("a1");
        p.text("c{d,select,other{y}z{");
        Probe.due("compile", p.compile(0, false), Probe.ARGUMENT);
        Probe.due("fault", p.object.fault(), 21);
        Probe.due("length", p.object.length(), 21);
        Probe.due("result", p.result(), "a1");
        p.written("a1");
        Probe.due("compile of no slot", p.compile(-1, false), Probe.ARGUMENT);
        p.written("a1");
    }

    private static void nothingOfAnEarlierMessage() {
        Probe p = new Probe();
        p.number("a", 5, 0);
        for (int round = 0; round < 4; round++) {
            p.message(0, false, "{a,plural,offset:3 =5{}other{#}}{a,select,other{x{a}}}");
            p.written("x5");
            p.message(1, false, "{a,plural,offset:2 other{#}}");
            Probe.due("format of slot 1", p.format(1, false), "1");
            Probe.due("result of slot 1", p.result(), "3");
            p.message(0, false, "{a,plural,other{#}}");
            p.written("5");
            p.message(0, false, "{a,plural,one{}other{#}}{a,selectordinal,other{#}}");
            p.written("55");
            p.text("{a,plural,offset:4 other{");
            p.compile(0, false);
            p.written("55");
        }
    }

    private static void allThatFits() {
        fine("x".repeat(120));
        fine("'".repeat(120));
        fine("{a,select,other{}" + "x{}".repeat(34) + "}");
        fine("{a}".repeat(40));
        Probe p = new Probe();
        p.message(0, false, "{a,select,other{o}" + "b{}".repeat(32) + "z{}}");
        p.word("a", "z");
        p.written("");
    }
}
