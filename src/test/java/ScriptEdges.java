/** The cases that SCRIPTS and promise 31 name. */
final class ScriptEdges {
    private static final int NULL = GenerationalHeap.NULL;
    private static final int FULL = GenerationalHeap.FULL;
    private static final int INVALID = GenerationalHeap.INVALID;

    private ScriptEdges() {
    }

    static void tests(Edges edges) {
        edges.in("SCRIPTS")
            .of("The text buffer holds at most 150 bytes.", ScriptEdges::hundredAndFiftyBytes)
            .of("A script is one or more commands, each ended by a semicolon.",
                ScriptEdges::oneOrMoreCommands)
            .of("A command is one of the words alloc, root, write, minor, start, step, followed by"
                + " its arguments:", ScriptEdges::sixWords)
            .of("\"alloc fields\", \"root index target\", \"write object field target\", \"minor\","
                + " \"start\", \"step budget\".", ScriptEdges::argumentsOfEach)
            .of("They have the effect of allocate(), setRoot(), write(), minorCollection(),"
                + " startMajor() and stepMajor().", ScriptEdges::effects)
            .of("A word is a maximal sequence of the letters a to z.", ScriptEdges::maximalWords)
            .of("A number has 1 to 3 decimal digits.", ScriptEdges::oneToThreeDigits)
            .of("A target is a number or a minus sign alone, which means NULL.",
                ScriptEdges::targets)
            .of("Spaces (byte 32) may stand between tokens, before the first and behind the last"
                + " one", ScriptEdges::spaces)
            .of("at least one space must separate two numbers.", ScriptEdges::numbersApart)
            .of("A word and a number need no space between them.", ScriptEdges::wordAndNumber);
        parsing(edges.in("31"));
        running(edges);
    }

    private static void parsing(Edges edges) {
        edges.of("Parses the text buffer as a script and then executes its commands in order.",
                ScriptEdges::inOrder)
            .of("The text buffer is not changed.", ScriptEdges::textStays)
            .of("The whole script is parsed before the first command is executed.",
                ScriptEdges::parsedFirst)
            .of("A syntax error is at the position of the first byte that cannot continue a valid"
                + " script, with two exceptions: a word that is not one of the six is an error at"
                + " its first letter, even at the end of the buffer", ScriptEdges::whereItIsWrong)
            .of("a script that ends too early otherwise is an error at the length of the buffer.",
                ScriptEdges::endsTooEarly)
            .of("An empty buffer and a buffer of spaces end too early.", ScriptEdges::empty)
            .of("A fourth digit of a number is an error at that digit.", ScriptEdges::fourthDigit);
    }

    private static void running(Edges edges) {
        edges.of("Execution stops at the first command that fails.", ScriptEdges::stopsAtAFailure)
            .of("The commands before it keep their effect.", ScriptEdges::effectsStay)
            .of("Neither a syntax error nor a failing command changes an error counter.",
                ScriptEdges::countersStay)
            .of("Returns the number of commands", ScriptEdges::numberOfCommands)
            .of("-10 - p for a syntax error at position p", ScriptEdges::syntaxCodes)
            .of("-1000 - k if the command with index k (from 0) fails.", ScriptEdges::failureCodes);
    }

    private static void good(Due due, String text, int commands) {
        new Run(due).script(text, commands);
    }

    private static void wrong(Due due, String text, int place) {
        new Run(due).script(text, -10 - place);
    }

    // ---- SCRIPTS

    private static void hundredAndFiftyBytes(Due due) {
        Run run = new Run(due).type(" ".repeat(144) + "minor").due("append(59)", 150);
        run.due("append(59) append(0)", FULL).due("runScript()", 1).due("clearText()", 150);
        Run cut = new Run(due).type("minor;".repeat(25) + "x").due("runScript()", 25);
        cut.due("clearText()", 150).due("append(32)", 1);
    }

    private static void oneOrMoreCommands(Due due) {
        good(due, "minor;", 1);
        good(due, "minor;minor;", 2);
        good(due, "minor;".repeat(25), 25);
        wrong(due, "", 0);
        wrong(due, ";", 0);
        wrong(due, "minor", 5);
        wrong(due, "minor;;", 6);
        wrong(due, "minor; ;", 7);
        wrong(due, "minor;minor", 11);
        wrong(due, "minor,minor;", 5);
        wrong(due, "alloc 0:", 7);
    }

    private static void sixWords(Due due) {
        good(due, "alloc 0;", 1);
        good(due, "root 0 -;", 1);
        good(due, "alloc 1;write 0 0 -;", 2);
        good(due, "minor;", 1);
        good(due, "start;step 1;", 2);
        wrong(due, "reset 8 16 1;", 0);
        wrong(due, "allocate 0;", 0);
        wrong(due, "a 0;", 0);
        wrong(due, "ALLOC 0;", 0);
        wrong(due, "1 alloc;", 0);
        wrong(due, "- alloc;", 0);
        // Each letter of each word counts.
        for (String word : new String[] {"alloc", "root", "write", "minor", "start", "step"}) {
            for (int k = 0; k < word.length(); k++) {
                wrong(due, word.substring(0, k) + "q" + word.substring(k + 1) + " 1;", 0);
                wrong(due, word.substring(0, k) + word.substring(k + 1) + " 1;", 0);
            }
        }
    }

    private static void argumentsOfEach(Due due) {
        wrong(due, "alloc;", 5);
        wrong(due, "alloc 0 0;", 8);
        wrong(due, "root;", 4);
        wrong(due, "root 0;", 6);
        wrong(due, "root 0 0 0;", 9);
        wrong(due, "write;", 5);
        wrong(due, "write 0;", 7);
        wrong(due, "write 0 0;", 9);
        wrong(due, "write 0 0 0 0;", 12);
        wrong(due, "minor 0;", 6);
        wrong(due, "minor -;", 6);
        wrong(due, "start 0;", 6);
        wrong(due, "step;", 4);
        wrong(due, "step 1 1;", 7);
        wrong(due, "alloc minor;", 6);
    }

    private static void effects(Due due) {
        Run run = new Run(due).does("reset(64, 128, 1)");
        run.script("alloc 3;alloc 1;", 2).due("youngWords()", 6);
        run.script("root 3 1;root 2 0;", 2).due("root(3)", 1).due("root(2)", 0);
        run.script("write 0 2 1;write 1 0 0;", 2).due("reference(0, 2)", 1)
            .due("reference(1, 0)", 0);
        run.script("root 2 -;write 1 0 -;minor;", 3).due("exists(0)", 0).due("isOld(1)", 1);
        run.script("start;", 1).due("phase()", GenerationalHeap.MARKING).due("greyCount()", 1);
        run.script("step 1;", 1).due("greyCount()", 0).due("colour(1)", GenerationalHeap.BLACK);
        run.script("step 200;", 1).due("phase()", GenerationalHeap.IDLE).due("majorCount()", 1);
        // A script stores as a caller does: it remembers, and it shades.
        Run.withOld(due, 1, 0).script("alloc 0;start;write 0 0 2;root 0 1;", 4).remembered("0")
            .due("colour(1)", GenerationalHeap.GREY);
        // It is refused what a caller is refused.
        new Run(due).script("alloc 5;", -1000).script("root 4 -;", -1000)
            .script("write 0 0 -;", -1000).script("step 1;", -1000).script("start;", 1)
            .script("start;", -1000).script("step 201;", -1000);
    }

    private static void maximalWords(Due due) {
        good(due, "minor ;minor;", 2);
        wrong(due, "minorminor;", 0);
        wrong(due, "startstep 1;", 0);
        wrong(due, "minora;", 0);
        wrong(due, "minorz;", 0);
        wrong(due, "aminor;", 0);
        wrong(due, "mi nor;", 0);
        // The neighbours of a and z, and capitals, are no letters: the word ends before them.
        wrong(due, "minor`;", 5);
        wrong(due, "minor{;", 5);
        wrong(due, "minorA;", 5);
        wrong(due, "minorZ;", 5);
        wrong(due, "mino`;", 0);
        wrong(due, "`minor;", 0);
    }

    private static void oneToThreeDigits(Due due) {
        good(due, "alloc 0;alloc 00;alloc 004;", 3);
        new Run(due, "startMajor()").script("step 200;", 1);
        new Run(due).script("alloc 999;", -1000);
        new Run(due).script("alloc 010;", -1000);
        wrong(due, "alloc ;", 6);
        wrong(due, "alloc 0000;", 9);
        wrong(due, "alloc 1000;", 9);
        // The neighbours of 0 and 9.
        wrong(due, "alloc /;", 6);
        wrong(due, "alloc :;", 6);
        wrong(due, "alloc 1/;", 7);
        wrong(due, "alloc 1:;", 7);
        wrong(due, "alloc +1;", 6);
        new Run(due).many(1, "reset(64, 128, 1)").many(50, "allocate(0)")
            .does("minorCollection()").many(49, "allocate(0)")
            .script("alloc 0;root 0 99;root 1 099;", 3).due("root(0) root(1)", 99);
    }

    private static void targets(Due due) {
        new Run(due, "allocate(1)").script("root 0 0;write 0 0 0;", 2).due("root(0)", 0)
            .due("reference(0, 0)", 0).script("root 0 -;write 0 0 -;", 2)
            .due("root(0) reference(0, 0)", NULL);
        wrong(due, "root 0 --;", 8);
        wrong(due, "root 0 -1;", 8);
        wrong(due, "root 0 - 1;", 9);
        wrong(due, "root 0 1-;", 8);
        wrong(due, "root 0 1 -;", 9);
        // Elsewhere than for a target a minus sign has no place.
        wrong(due, "alloc -;", 6);
        wrong(due, "root - 0;", 5);
        wrong(due, "write - 0 0;", 6);
        wrong(due, "write 0 - 0;", 8);
        wrong(due, "step -;", 5);
        wrong(due, "root 0 ;", 7);
    }

    private static void spaces(Due due) {
        good(due, "   alloc   1   ;   write   0   0   -   ;   minor   ;   ", 3);
        good(due, "alloc 1;write 0 0-;root 0-;minor;", 4);
        good(due, " ".repeat(144) + "minor;", 1);
        good(due, "minor;" + " ".repeat(144), 1);
        wrong(due, "\tminor;", 0);
        wrong(due, "minor;\n", 6);
        wrong(due, "minor\0;", 5);
        wrong(due, "minor!;", 5);
        wrong(due, "minor\37;", 5);
        // Within a token a space has no place.
        wrong(due, "all oc 1;", 0);
        new Run(due).script("alloc 1 1;", -10 - 8);
    }

    private static void numbersApart(Due due) {
        new Run(due, "allocate(0)").script("root 1 0;", 1).script("root 1  0;", 1);
        wrong(due, "root 10;", 7);
        wrong(due, "root 100;", 8);
        wrong(due, "root 0001;", 8);
        wrong(due, "write 0 00;", 10);
        good(due, "alloc 1;write 0 0 0;", 2);
        // Between a number and a minus sign, or a semicolon, none is needed.
        good(due, "root 0-;root 0 -;", 2);
    }

    private static void wordAndNumber(Due due) {
        good(due, "alloc1;root0 0;write0 0 0;minor;start;step1;", 6);
        good(due, "alloc 1;root 0 0;write 0 0 0;start;step 1;", 5);
        new Run(due).script("alloc4;", 1).due("youngWords()", 5);
    }

    // ---- promise 31

    private static void inOrder(Due due) {
        new Run(due).script("alloc 1;alloc 0;write 0 0 1;root 0 0;minor;alloc 4;", 6)
            .nursery("0 1 2").due("age(0) age(1)", 1).due("age(2)", 0);
        new Run(due).script("alloc 0;root 0 0;", 2).due("root(0)", 0);
        new Run(due).script("root 0 0;alloc 0;", -1000).due("youngCount()", 0);
        new Run(due).script("root 0 -;root 0 -;alloc 2;", 3).due("youngWords()", 3)
            .due("runScript()", 3).due("youngWords()", 6);
    }

    private static void textStays(Due due) {
        new Run(due).script("alloc 0;", 1).due("runScript()", 1).due("youngCount()", 2)
            .due("clearText()", 8);
        new Run(due).script("mino", -10).due("runScript()", -10).due("clearText()", 4);
        new Run(due).script("alloc 5;", -1000).due("runScript()", -1000).due("clearText()", 8);
        new Run(due).script("", -10).due("clearText()", 0);
        new Run(due).script("minor", -15).due("append(59)", 6).due("runScript()", 1);
    }

    private static void parsedFirst(Due due) {
        new Run(due).script("alloc 0;alloc 0;start;x", -10 - 22).due("youngCount() phase()", 0);
        new Run(due).script("alloc 0;alloc", -10 - 13).due("youngCount()", 0);
        // A failing command before a syntax error is never tried.
        new Run(due).script("step 1;minor", -10 - 12).errors(0, 0, 0);
        new Run(due).script("minor;".repeat(24) + "alloc;", -10 - 149);
    }

    private static void whereItIsWrong(Due due) {
        wrong(due, "alloc 1x;", 7);
        wrong(due, "minor;1", 6);
        wrong(due, "root 0,0;", 6);
        wrong(due, "minor minor;", 6);
        wrong(due, "alloc 1 alloc 1;", 8);
        wrong(due, "foo;", 0);
        wrong(due, "minor;foo;", 6);
        wrong(due, "minor;  minos;", 8);
        wrong(due, "mino", 0);
        wrong(due, "  m", 2);
        wrong(due, "minor;allo", 6);
        wrong(due, "minor;".repeat(24) + "minoro", 144);
        wrong(due, "minors", 0);
        wrong(due, "alloc foo", 6);
        wrong(due, "minor foo", 6);
        wrong(due, "x", 0);
        wrong(due, "~", 0);
        wrong(due, "\177", 0);
    }

    private static void endsTooEarly(Due due) {
        String[] beginnings = {"minor", "minor ", "alloc", "alloc ", "alloc 1", "alloc 123",
            "alloc 1 ", "root 0", "root 0 ", "root 0 -", "root 0 - ", "write 0", "write 0 0 ",
            "write 0 0 0", "start", "step", "step 1", "minor;alloc", "minor; minor"};
        for (String text : beginnings) {
            wrong(due, text, text.length());
        }
        wrong(due, "minor;".repeat(24) + "minor ", 150);
        // A script that ends behind a semicolon, or behind spaces there, ends in time.
        good(due, "minor;", 1);
        good(due, "minor;  ", 1);
    }

    private static void empty(Due due) {
        new Run(due).due("runScript()", -10).due("clearText()", 0).due("runScript()", -10);
        wrong(due, " ", 1);
        wrong(due, "     ", 5);
        wrong(due, " ".repeat(150), 150);
        new Run(due).script("minor;", 1).does("clearText()").due("runScript()", -10);
    }

    private static void fourthDigit(Due due) {
        wrong(due, "alloc 0001;", 9);
        wrong(due, "alloc0001", 8);
        wrong(due, "alloc 00000;", 9);
        wrong(due, "root 1234 0;", 8);
        wrong(due, "root 0 1234;", 10);
        wrong(due, "write 1 2 3456", 13);
        wrong(due, "write 1 2345 6;", 11);
        wrong(due, "step 2000;", 8);
        new Run(due).script("alloc 123;", -1000);
    }

    private static void stopsAtAFailure(Due due) {
        new Run(due).script("alloc 0;root 4 0;alloc 0;", -1001).due("youngCount()", 1);
        new Run(due).script("step 1;alloc 0;step 1;", -1000).due("youngCount()", 0);
        new Run(due).script("alloc4;alloc4;alloc4;alloc4;alloc4;alloc0;", -1004)
            .due("youngCount()", 4).due("allocate(3)", 4);
    }

    private static void effectsStay(Due due) {
        new Run(due).script("alloc 1;root 0 0;write 0 0 0;minor;start;start;", -1005)
            .due("root(0)", 0).due("reference(0, 0)", 0).due("age(0)", 1)
            .due("phase()", GenerationalHeap.MARKING);
        new Run(due).script("alloc 0;alloc 5;", -1001).due("exists(0)", 1);
    }

    private static void countersStay(Due due) {
        new Run(due).script("foo", -10).script("", -10).script("alloc 0001;", -19).errors(0, 0, 0);
        new Run(due).script("alloc 5;", -1000).script("root 0 9;", -1000)
            .script("write 9 0 0;", -1000).errors(0, 0, 0);
        new Run(due).script("step 1;", -1000).script("start;start;", -1001).errors(0, 0, 0);
        new Run(due).many(24, "allocate(0)").script("alloc 0;", -1000).errors(0, 0, 0);
        Run.sweeping(due).script("root 1 1;", -1000).script("write 0 0 1;", -1000).errors(0, 0, 0);
        new Run(due).due("allocate(5)", INVALID).script("alloc 5;", -1000).errors(1, 0, 0);
    }

    private static void numberOfCommands(Due due) {
        good(due, "minor;", 1);
        good(due, "minor;minor; minor ;", 3);
        good(due, "start;step2;".repeat(12) + "minor;", 25);
        good(due, "root0-;".repeat(21) + "   ", 21);
    }

    private static void syntaxCodes(Due due) {
        new Run(due).script("x", -10);
        new Run(due).script(" x", -11);
        new Run(due).script("minor;".repeat(24) + "minor=", -10 - 149);
        new Run(due).script(" ".repeat(150), -160);
    }

    private static void failureCodes(Due due) {
        new Run(due).script("step 1;", -1000);
        new Run(due).script("minor;step 1;", -1001);
        new Run(due).script("minor;".repeat(24) + "step1;", -1024);
        new Run(due).script("minor;step 1;step 1;", -1001);
    }
}
