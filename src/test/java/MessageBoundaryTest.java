/** The boundary cases of the Terms MESSAGE, ARGUMENT and BRANCH. */
public final class MessageBoundaryTest {
    public static void main(String[] args) {
        endOfTheText();
        endOfABranch();
        twoApostrophes();
        beginOfAQuote();
        endOfAQuote();
        doubledInAQuote();
        signs();
        signsWithin();
        closingBraceAtLevelZero();
        threeForms();
        offsetDigits();
        noOffset();
        spacesBetween();
        noSpacesInOffset();
        nameLength();
        nameLetters();
        typeWords();
        spacesOfBranches();
        selectorLength();
        selectorNumbers();
        noNumbersForSelect();
        otherIsNeeded();
        deepestLevel();
        levelsSideBySide();
        mostBranches();
        Probe.finish();
    }

    private static void written(boolean doubled, String pattern, String want) {
        Probe p = new Probe();
        p.number("n", 1234, 0);
        p.word("w", "abc");
        p.message(0, doubled, pattern);
        p.written(want);
    }

    private static void writtenInBoth(String pattern, String want) {
        written(false, pattern, want);
        written(true, pattern, want);
    }

    private static void endOfTheText() {
        Probe.sentence("It ends with the text (level 0)");
        writtenInBoth("", "");
        writtenInBoth(" ", " ");
        writtenInBoth("{n}", "1234");
        writtenInBoth("x".repeat(120), "x".repeat(120));
    }

    private static void endOfABranch() {
        Probe.sentence("or before a } (other levels, where the text may not end first)");
        writtenInBoth("{w,select,other{}}", "");
        writtenInBoth("{w,select,other{a}}b", "ab");
        Probe.messageError("{w,select,other{", 16);
        Probe.messageError("{w,select,other{a", 17);
        Probe.messageError("{w,select,other{'}' ", 20);
        Probe.messageError("{w,select,other{{n,plural,other{", 32);
        Probe.messageError("{w,select,other{{n,plural,other{}}", 34);
    }

    private static void twoApostrophes() {
        Probe.sentence("'' (two) is an apostrophe");
        writtenInBoth("''", "'");
        writtenInBoth("''''", "''");
        writtenInBoth("a''b", "a'b");
        writtenInBoth("''{n}''", "'1234'");
        writtenInBoth("{n,plural,other{''#''}}", "'1,234'");
        writtenInBoth("{w,select,other{''}}''", "''");
    }

    private static void beginOfAQuote() {
        Probe.sentence("A ' alone begins a QUOTE, in the DOUBLED mode always, in the other one when "
            + "{, } or a # that would be a sign comes next; otherwise it is an apostrophe");
        written(true, "'", "");
        written(false, "'", "'");
        written(true, "'x'", "x");
        written(false, "'x'", "'x'");
        written(true, "' '{n}", " 1234");
        written(false, "' ' {n}", "' ' 1234");
        writtenInBoth("'{'{n}", "{1234");
        writtenInBoth("'}'{n}", "}1234");
        written(true, "'#'", "#");
        written(false, "'#'", "'#'");
        writtenInBoth("{n,plural,other{'#'#}}", "#1,234");
        writtenInBoth("{n,selectordinal,other{'#'#}}", "#1,234");
        written(true, "{w,select,other{'#'#}}", "##");
        written(false, "{w,select,other{'#'#}}", "'#'#");
        written(false, "{w,select,other{'# }}", "'# ");
        written(true, "{n,plural,other{{w,select,other{'#'}}}}", "#");
        written(false, "{n,plural,other{{w,select,other{'#' }}}}", "'#' ");
        written(false, "{w,select,other{{n,plural,other{'#'}}}}", "#");
        written(false, "{n,plural,other{'x' #}}", "'x' 1,234");
        written(false, "x'", "x'");
        written(true, "x'", "x");
    }

    private static void endOfAQuote() {
        Probe.sentence("In a quote, which goes up to the next ' that is not doubled (which ends it "
            + "and is no part) or to the text's end");
        writtenInBoth("'{", "{");
        writtenInBoth("'{n}", "{n}");
        writtenInBoth("'{n}'", "{n}");
        writtenInBoth("'{'n'}'", "{n}");
        writtenInBoth("'{'", "{");
        written(true, "'x'{n}", "x1234");
        written(true, "'" + "x".repeat(119), "x".repeat(119));
        written(true, "x".repeat(119) + "'", "x".repeat(119));
        written(false, "'{" + "x".repeat(118), "{" + "x".repeat(118));
        Probe.messageError("{w,select,other{'}", 18);
        Probe.messageError("{w,select,other{'{}}", 20);
        Probe.messageError(true, "{w,select,other{'}}", 19);
    }

    private static void doubledInAQuote() {
        Probe.sentence("'' is an apostrophe and all else itself");
        writtenInBoth("'{''}'", "{'}");
        writtenInBoth("'{'''", "{'");
        writtenInBoth("'{''", "{'");
        writtenInBoth("'{''''", "{''");
        writtenInBoth("'{'''{n}", "{'1234");
        writtenInBoth("'{n,plural,other{#}} #'", "{n,plural,other{#}} #");
        writtenInBoth("{n,plural,other{'{#''#}'#}}", "{#'#}1,234");
    }

    private static void signs() {
        Probe.sentence("# is a SIGN in the message of a branch of a plural or selectordinal argument");
        writtenInBoth("#", "#");
        writtenInBoth("{w,select,other{#}}", "#");
        writtenInBoth("{n,plural,other{#}}#", "1,234#");
        writtenInBoth("{n,selectordinal,other{##}}", "1,2341,234");
    }

    private static void signsWithin() {
        Probe.sentence("(not in messages within it, but for those of such arguments)");
        writtenInBoth("{n,plural,other{{w,select,other{#}}}}", "#");
        writtenInBoth("{n,plural,other{{w,select,other{#}}#}}", "#1,234");
        writtenInBoth("{n,plural,offset:1 other{{n,plural,other{#}}#}}", "1,2341,233");
        writtenInBoth("{n,plural,other{{w,select,other{{n,plural,offset:4 other{#}}#}}}}", "1,230#");
    }

    private static void closingBraceAtLevelZero() {
        Probe.sentence("anything else is itself, also } at level 0");
        writtenInBoth("}", "}");
        writtenInBoth("}}{n}}", "}}1234}");
        writtenInBoth("{w,select,other{}}}", "}");
        writtenInBoth(",:;=!%~", ",:;=!%~");
    }

    private static void threeForms() {
        Probe.sentence("{ NAME } or { NAME , TYPE } with the type number, hex or upper; or "
            + "{ NAME , TYPE , BRANCHES } with the type plural, selectordinal or select");
        Probe.messageError("{", 1);
        Probe.messageError("{}", 1);
        Probe.messageError("{,}", 1);
        Probe.messageError("{n,}", 3);
        String[] bare = {"number", "hex", "upper"};
        for (String type : bare) {
            Probe.messageFine("{n," + type + "}");
            Probe.messageError("{n," + type + ",}", 3 + type.length());
            Probe.messageError("{n," + type + ",other{}}", 3 + type.length());
        }
        String[] branched = {"plural", "selectordinal", "select"};
        for (String type : branched) {
            Probe.messageFine("{n," + type + ",other{}}");
            Probe.messageError("{n," + type + "}", 3 + type.length());
            Probe.messageError("{n," + type + " other{}}", 4 + type.length());
        }
    }

    private static void offsetDigits() {
        Probe.sentence("there may be offset: and one or two digits");
        String[] types = {"plural", "selectordinal"};
        for (String type : types) {
            String start = "{n," + type + ",offset:";
            int place = start.length();
            Probe.messageError(start + "other{}}", place);
            Probe.messageError(start + "}", place);
            Probe.messageFine(start + "0other{}}");
            Probe.messageFine(start + "99other{}}");
            Probe.messageError(start + "100other{}}", place + 2);
            Probe.messageError(start + "000 other{}}", place + 2);
            Probe.messageError(start + "4294967297 other{}}", place + 2);
            Probe.messageError(start + "-1 other{}}", place);
            Probe.messageError(start + "1", place + 1);
        }
        Probe.messageError("{n,select,offset:1 other{}}", 16);
        writtenInBoth("{n,plural,offset:0other{#}}", "1,234");
        writtenInBoth("{n,plural,offset:9other{#}}", "1,225");
        writtenInBoth("{n,plural,offset:99other{#}}", "1,135");
        writtenInBoth("{n,plural,offset:01other{#}}", "1,233");
        writtenInBoth("{n,plural,offset:00other{#}}", "1,234");
    }

    private static void noOffset() {
        Probe.sentence("(the OFFSET, else 0) before the branches");
        writtenInBoth("{n,plural,other{#}}", "1,234");
        writtenInBoth("{n,plural,offset{x}other{#}}", "1,234");
        Probe.messageError("{n,plural,other{}offset:1}", 23);
        Probe.messageError("{n,plural,offset:1 offset:1 other{}}", 25);
    }

    private static void spacesBetween() {
        Probe.sentence("Spaces may be between all of these");
        writtenInBoth("{ n }", "1234");
        writtenInBoth("{   n   ,   number   }", "1,234");
        writtenInBoth("{  n  ,  plural  ,  offset:4  =1  {a}  other  {#}  }", "1,230");
        writtenInBoth("{n,plural,offset:4other{#}}", "1,230");
        Probe.messageError("{n n}", 3);
        Probe.messageError("{n,num ber}", 3);
        Probe.messageError("{" + " ".repeat(119), 120);
    }

    private static void noSpacesInOffset() {
        Probe.sentence("(not within offset: and its digits)");
        Probe.messageError("{n,plural,offset :1 other{}}", 17);
        Probe.messageError("{n,plural,offset: 1 other{}}", 17);
        Probe.messageError("{n,plural,offset:1 2 other{}}", 19);
        Probe.messageError("{n,plural,off set:1 other{}}", 14);
    }

    private static void nameLength() {
        Probe.sentence("A name is a longest row of letters a .. z, of 1 to 4 of them "
            + "(an error at the fifth letter)");
        Probe.messageError("{}", 1);
        Probe.messageFine("{a}");
        Probe.messageFine("{abcd}");
        Probe.messageError("{abcde}", 5);
        Probe.messageError("{abcdefghijklm}", 5);
        Probe.messageError("{  abcde", 7);
        Probe.messageError("{abcde,number}", 5);
        Probe.messageError("{n,plural,other{{abcde}}}", 21);
        Probe p = new Probe();
        p.word("abcd", "yes");
        p.message(0, false, "{abcd}");
        p.written("yes");
    }

    private static void nameLetters() {
        Probe.sentence("A name is a longest row of letters a .. z");
        Probe p = new Probe();
        p.word("a", "1");
        p.word("z", "2");
        p.word("az", "3");
        p.message(0, false, "{a}{z}{az}");
        p.written("123");
        char[] none = {'`', '{', 'A', 'Z', '@', '[', '0', '_'};
        for (char c : none) {
            Probe.messageError("{" + c + "}", 1);
            Probe.messageError("{a" + c + "}", 2);
        }
    }

    private static void typeWords() {
        Probe.sentence("a type is a longest row of them "
            + "(an error at its first letter when it is none of the six)");
        String[] six = {"number", "hex", "upper", "plural", "selectordinal", "select"};
        for (String type : six) {
            int shorter = type.length() - 1;
            Probe.messageError("{n, " + type.substring(0, shorter) + " ,other{}}", 4);
            Probe.messageError("{n, " + type.substring(1) + ",other{}}", 4);
            Probe.messageError("{n, x" + type.substring(1) + ",other{}}", 4);
            Probe.messageError("{n, " + type + "s,other{}}", 4);
            Probe.messageError("{n, " + type + "a,other{}}", 4);
            Probe.messageError("{n, " + type + "z,other{}}", 4);
            Probe.messageError("{n, " + type + "`,other{}}", 4 + type.length());
            Probe.messageError("{n, " + type + "{,other{}}", 4 + type.length());
            Probe.messageError("{n," + type.substring(0, shorter), 3);
        }
        String[] none = {"a", "other", "offset", "ordinal", "lower", "date", "selectplural",
            "numberhex"};
        for (String type : none) {
            Probe.messageError("{n," + type + "}", 3);
        }
        Probe.messageError("{n,Number}", 3);
        Probe.messageError("{n,hEx}", 3);
    }

    private static void spacesOfBranches() {
        Probe.sentence("a SELECTOR, {, a message, }, with spaces between and behind them");
        writtenInBoth("{w,select,abc{x}other{y}}", "x");
        writtenInBoth("{w,select,  abc  {x}  other  {y}  }", "x");
        writtenInBoth("{n,plural,  =1234  {x}  other  {y}  }", "x");
        Probe.messageError("{w,select,a bc{x}other{y}}", 12);
        Probe.messageError("{n,plural,= 1{x}other{y}}", 11);
        Probe.messageError("{n,plural,=1 2{x}other{y}}", 13);
        Probe.messageError("{w,select,{x}other{y}}", 10);
    }

    private static void selectorLength() {
        Probe.sentence("A selector is a longest row of letters a .. z, at most 6 "
            + "(an error at the seventh)");
        String[] types = {"select", "plural", "selectordinal"};
        for (String type : types) {
            String start = "{n," + type + ",";
            int place = start.length();
            Probe.messageFine(start + "a{}other{}}");
            Probe.messageFine(start + "abcdef{}other{}}");
            Probe.messageFine(start + "azbycx{}other{}}");
            Probe.messageError(start + "ab`{}other{}}", place + 2);
            Probe.messageError(start + "abC{}other{}}", place + 2);
            Probe.messageError(start + "abcdefg{}other{}}", place + 6);
            Probe.messageError(start + "abcdefghijklmnop", place + 6);
            Probe.messageError(start + "others{}}", place + 8);
            Probe.messageError(start + "offsets:1 other{}}", place + 6);
            Probe.messageError(start + "other{}abcdefg{}}", place + 13);
        }
    }

    private static void selectorNumbers() {
        Probe.sentence("or, not for select, = and a longest row of digits, 1 to 4 of them "
            + "(an error at the fifth)");
        String[] types = {"plural", "selectordinal"};
        for (String type : types) {
            String start = "{n," + type + ",=";
            int place = start.length();
            Probe.messageError(start + "{}other{}}", place);
            Probe.messageFine(start + "0{}other{}}");
            Probe.messageFine(start + "9999{}other{}}");
            Probe.messageError(start + "10000{}other{}}", place + 4);
            Probe.messageError(start + "00000{}other{}}", place + 4);
            Probe.messageError(start + "42949672961{}other{}}", place + 4);
            Probe.messageError(start + "-1{}other{}}", place);
            Probe.messageError(start + "1.0{}other{}}", place + 1);
            Probe.messageError(start + "1/{}other{}}", place + 1);
            Probe.messageError(start + "1:{}other{}}", place + 1);
            Probe.messageError(start + "/{}other{}}", place);
        }
        writtenInBoth("{n,plural,=1234{x}other{y}}", "x");
        writtenInBoth("{n,plural,=123{x}=234{z}other{y}}", "y");
    }

    private static void noNumbersForSelect() {
        Probe.sentence("or, not for select, =");
        Probe.messageError("{w,select,=1{}other{}}", 10);
        Probe.messageError("{w,select,other{}=1{}}", 17);
    }

    private static void otherIsNeeded() {
        Probe.sentence("There must be one with the selector other: "
            + "else an error at the } that ends the argument");
        String[] types = {"select", "plural", "selectordinal"};
        for (String type : types) {
            String start = "{n," + type + ",";
            int place = start.length();
            Probe.messageError(start + "}", place);
            Probe.messageError(start + "  }", place + 2);
            Probe.messageError(start + "one{}}", place + 5);
            Probe.messageError(start + "one{} }{", place + 6);
            Probe.messageError(start + "othe{}}", place + 6);
            Probe.messageError(start + "a{{n,select,other{}}}}", place + 21);
            Probe.messageError(start + "a{}other{{n,plural,one{}}}}", place + 24);
            Probe.messageFine(start + "other{}}");
            Probe.messageFine(start + "one{}other{}}");
            Probe.messageFine(start + "other{}one{}other{}}");
            Probe.messageError(start + "one{}", place + 5);
        }
        Probe.messageError("{n,plural,offset:1}", 18);
        Probe.messageError("{n,plural,=1{}}", 14);
    }

    private static void deepestLevel() {
        Probe.sentence("A message may have the level 3 at most: else an error at the { of the branch");
        String select = "{w,select,other{";
        String plural = "{n,plural,other{";
        writtenInBoth(select.repeat(3) + "{n}" + "}}".repeat(3), "1234");
        writtenInBoth(plural.repeat(3) + "#" + "}}".repeat(3), "1,234");
        writtenInBoth(plural + select + plural + "#" + "}}".repeat(3), "1,234");
        Probe.messageError(select.repeat(4) + "}}".repeat(4), 63);
        Probe.messageError(plural.repeat(4) + "}}".repeat(4), 63);
        Probe.messageError(select.repeat(4), 63);
        Probe.messageError(select.repeat(3) + "{w,select,a  {}other{}}" + "}}".repeat(3), 61);
    }

    private static void levelsSideBySide() {
        Probe.sentence("A MESSAGE has a level: 0 for the whole text; of a branch, one more than "
            + "that of the message in which its argument is");
        Probe.messageFine("{w,select,a{}b{}c{}d{}other{}}" + "{w,select,other{}}".repeat(4));
        String inner = "{w,select,other{}}";
        writtenInBoth("{w,select,abc{" + inner + inner + "x" + inner + inner + "}other{}}", "x");
        writtenInBoth("{w,select,a{{w,select,b{{w,select,other{}}}other{}}}"
            + "other{{w,select,other{{w,select,other{x}}}}}}", "x");
    }

    /** As many branches and arguments as a text can have are all kept. */
    private static void mostBranches() {
        Probe.sentence("The TEXT has at most 120 of them");
        Probe p = new Probe();
        p.message(0, false, "{w,select," + "x{}".repeat(32) + "other{o}" + "yz{}}");
        Probe.due("length", p.object.length(), 119);
        p.word("w", "yz");
        p.written("");
        p.word("w", "x");
        p.written("");
        p.word("w", "z");
        p.written("o");
        p.message(0, false, "{w}".repeat(40));
        Probe.due("length", p.object.length(), 120);
        p.written("z".repeat(40));
    }
}
