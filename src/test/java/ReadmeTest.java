import java.io.ByteArrayOutputStream;
import java.io.IOException;
import java.io.PrintStream;
import java.nio.file.Files;
import java.nio.file.Path;
import java.util.List;

/** What README.md tells of the class's use is so; to be run in the checkout's folder. */
public final class ReadmeTest {
    public static void main(String[] args) throws IOException {
        exampleIsThisOne();
        Probe.due("the example's print", printOf(ReadmeTest::example), "1,234 days");
        types();
        select();
        plural();
        quotes();
        rules();
        Probe.finish();
    }

    private static void example() {
        PluralMessages m = new PluralMessages();

        // The text "one:i=1" becomes the rules for counting.
        m.type(0x6f6e653a);                 // one:
        m.type(0x00693d31);                 // i=1
        m.rules(false);

        // The text "{n,plural,one{# day}other{# days}}" becomes the message of slot 0.
        m.wipe();
        String pattern = "{n,plural,one{# day}other{# days}}";
        for (int k = 0; k < pattern.length(); k++) {
            m.type(pattern.charAt(k));
        }
        m.compile(0, false);

        m.number('n', 1234, 0);             // the value under the name n: 1234 with scale 0
        int length = m.format(0, false);    // 10
        for (int k = 0; k < length; k++) {
            System.out.print((char) m.out(k));   // 1,234 days
        }
        Probe.due("the example's length", length, 10);
    }

    private static String printOf(Runnable printing) {
        PrintStream before = System.out;
        ByteArrayOutputStream printed = new ByteArrayOutputStream();
        System.setOut(new PrintStream(printed));
        printing.run();
        System.out.flush();
        System.setOut(before);
        return printed.toString();
    }

    /** Each line of the README's example stands in this file too, so that the two stay the same. */
    private static void exampleIsThisOne() throws IOException {
        List<String> readme = Files.readAllLines(Path.of("README.md"));
        String own = Files.readString(Path.of("src/test/java/ReadmeTest.java"));
        int start = readme.indexOf("```java") + 1;
        Probe.due("README.md has an example", start > 0, true);
        for (int k = start; k < readme.size() && !readme.get(k).equals("```"); k++) {
            String line = readme.get(k);
            Probe.due("the example's line " + line, own.contains(line), true);
        }
    }

    private static void told(String words) throws IOException {
        boolean isTold = Files.readString(Path.of("README.md")).contains("`" + words + "`");
        Probe.due("README.md tells " + words, isTold, true);
    }

    private static void types() throws IOException {
        told("{n}");
        told("{n,number}");
        told("{n,hex}");
        told("{n,upper}");
        told("number('n', 150, 2)");
        Probe p = new Probe();
        p.message(0, false, "{n} {n,number} {n,hex}");
        p.number("n", 4010, 0);
        p.written("4010 4,010 faa");
        p.message(0, false, "{n,upper}");
        p.word("n", "a-z");
        p.written("A-Z");
        p.message(0, false, "{n}");
        p.number("n", 150, 2);
        p.written("1.50");
    }

    private static void select() throws IOException {
        told("{g,select,f{She}other{They}}");
        Probe p = new Probe();
        p.message(0, false, "{g,select,f{She}other{They}}");
        p.word("g", "f");
        p.written("She");
        p.word("g", "m");
        p.written("They");
    }

    private static void plural() throws IOException {
        told("{n,plural,offset:1 =0{none}one{# day}other{# days}}");
        Probe p = new Probe();
        p.ruleText(false, "one:i=1");
        p.message(0, false, "{n,plural,offset:1 =0{none}one{# day}other{# days}}");
        p.number("n", 0, 0);
        p.written("none");
        p.number("n", 2, 0);
        p.written("1 day");
        p.number("n", 1, 0);
        p.written("0 days");
    }

    private static void quotes() throws IOException {
        told("'{x}'");
        Probe p = new Probe();
        p.message(0, false, "'{x}' it''s 'a'");
        p.written("{x} it's 'a'");
        p.message(0, true, "'{x}' it''s 'a'");
        p.written("{x} it's a");
    }

    private static void rules() throws IOException {
        told("one:i=1 and v=0;few:n%10=2..4 and n%100!=12..14");
        Probe p = new Probe();
        p.ruleText(false, "one:i=1 and v=0;few:n%10=2..4 and n%100!=12..14");
        Probe.due("1", p.category(false, 1, 0), "1");
        Probe.due("1.0", p.category(false, 10, 1), "5");
        Probe.due("22", p.category(false, 22, 0), "3");
        Probe.due("12", p.category(false, 12, 0), "5");
    }
}
