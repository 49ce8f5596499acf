/** Promise 31: runScript. */
public final class ScriptTest {
    private static final Due due = new Due("ScriptTest");

    public static void main(String[] args) {
        goodScripts();
        syntaxErrors();
        everyByteAtEveryPlace();
        scriptsDoWhatCallsDo();
        failingCommands();
        nothingRunsBeforeAllIsParsed();
        fullTexts();
        oneObjectRunsManyScripts();
        due.end();
    }

    private static void runs(String text, int want) {
        GenerationalHeap heap = new GenerationalHeap();
        due.is("'" + text + "'", Calls.run(heap, text), want);
        due.is("errors of '" + text + "'", Calls.errors(heap), "0 0 0");
        due.is("the text stays: '" + text + "'", heap.clearText(), text.length());
    }

    private static void goodScripts() {
        runs("minor;", 1);
        runs("  minor  ;  minor;  ", 2);
        runs("alloc 0;", 1);
        runs("alloc0;alloc 4 ;alloc004;", 3);
        runs("root 3 -;", 1);
        runs("root3-;", 1);
        runs("root 003  - ;", 1);
        runs("alloc0;root 0 0;root 0 00;", 3);
        runs("alloc1;write0 0 0;write 0 0-;write 000 000 000;", 4);
        runs("start;step200;", 2);
        runs("start;step 1;step 1;start;", 4);
    }

    private static void wrongAt(String text, int place) {
        runs(text, -10 - place);
    }

    private static void syntaxErrors() {
        wrongAt("", 0);
        wrongAt("   ", 3);
        wrongAt(";", 0);
        wrongAt("minor", 5);
        wrongAt("minor  ", 7);
        wrongAt("minor;;", 6);
        wrongAt("minor; ;", 7);
        wrongAt("minor 1;", 6);
        wrongAt("minor1;", 5);
        wrongAt("minor-;", 5);
        wrongAt("minor minor;", 6);
        wrongAt("mino", 0);
        wrongAt("  mino", 2);
        wrongAt("m", 0);
        wrongAt("minors;", 0);
        wrongAt("minorstart;", 0);
        wrongAt("minor;foo 1;", 6);
        wrongAt("minor; mino;", 7);
        wrongAt("xinor;", 0);
        wrongAt("minox;", 0);
        wrongAt("xlloc 1;", 0);
        wrongAt("stap 1;", 0);
        wrongAt("Minor;", 0);
        wrongAt("minoR;", 0);
        wrongAt("allocA", 5);
        wrongAt("1;", 0);
        wrongAt("-", 0);
        wrongAt("alloc", 5);
        wrongAt("alloc ", 6);
        wrongAt("alloc;", 5);
        wrongAt("alloc -;", 6);
        wrongAt("alloc 1", 7);
        wrongAt("alloc 1 ", 8);
        wrongAt("alloc 1 2;", 8);
        wrongAt("alloc 1-;", 7);
        wrongAt("alloc 1x;", 7);
        wrongAt("alloc 1 alloc 1;", 8);
        wrongAt("alloc alloc;", 6);
        wrongAt("alloc foo;", 6);
        wrongAt("alloc 0001;", 9);
        wrongAt("alloc 1234", 9);
        wrongAt("alloc\t1;", 5);
        wrongAt("alloc 1;\n", 8);
        wrongAt("root 0;", 6);
        wrongAt("root 012;", 8);
        wrongAt("root - 0;", 5);
        wrongAt("root 0 --;", 8);
        wrongAt("root 0 -1;", 8);
        wrongAt("root 0 - 1;", 9);
        wrongAt("root 0 1-;", 8);
        wrongAt("root 0,1;", 6);
        wrongAt("write 0 -;", 8);
        wrongAt("write - 0 0;", 6);
        wrongAt("write 0 0 0 0;", 12);
        wrongAt("write 0 0 0", 11);
        wrongAt("write 0 0 ", 10);
        wrongAt("start 1;", 6);
        wrongAt("step;", 4);
        wrongAt("step -1;", 5);
        wrongAt("step 1 1;", 7);
    }

    /** One byte put into a script, or cut out of it: held against the grammar. */
    private static void everyByteAtEveryPlace() {
        String[] scripts = {" alloc 1; root 0 0;", "write 10 200 - ;minor;", "start;step12 ;",
            "root 0 123;", "write1 2 3;"};
        for (String script : scripts) {
            for (int place = 0; place <= script.length(); place++) {
                String head = script.substring(0, place);
                String tail = script.substring(place);
                for (char sign = 0; sign < 128; sign++) {
                    holdsAgainstGrammar(head + sign + tail);
                }
                holdsAgainstGrammar(head);
                holdsAgainstGrammar(tail);
                holdsAgainstGrammar(tail.isEmpty() ? head : head + tail.substring(1));
            }
        }
    }

    private static void holdsAgainstGrammar(String text) {
        int answer = Calls.run(new GenerationalHeap(), text);
        int place = ScriptGrammar.wrongAt(text);
        if (place >= 0) {
            due.is("'" + text + "'", answer, -10 - place);
        } else {
            due.holds("'" + text + "' answered " + answer, answer > 0 || answer <= -1000);
        }
    }

    private static void scriptsDoWhatCallsDo() {
        GenerationalHeap heap = new GenerationalHeap();
        due.is("runScript()", Calls.run(heap,
            "alloc 2;alloc 1;alloc 0;root 0 0;write 0 1 1;write 1 0 2;minor;minor;alloc 3;"), 9);
        due.is("runScript()", Calls.run(heap, "write 0 0 3;root 1-;start;step 2;"), 4);
        GenerationalHeap other = new GenerationalHeap();
        other.allocate(2);
        other.allocate(1);
        other.allocate(0);
        other.setRoot(0, 0);
        other.write(0, 1, 1);
        other.write(1, 0, 2);
        other.minorCollection();
        other.minorCollection();
        other.allocate(3);
        other.write(0, 0, 3);
        other.setRoot(1, -1);
        other.startMajor();
        other.stepMajor(2);
        heap.clearText();
        due.is("digest()", heap.digest(), other.digest());
        Calls.type(heap, "minor;");
        heap.runScript();
        due.is("runScript() again", heap.runScript(), 1);
        due.is("clearText()", heap.clearText(), 6);
    }

    private static void failingCommands() {
        runs("alloc 5;", -1000);
        runs("alloc 999;", -1000);
        runs("minor;root 4 -;", -1001);
        runs("root 0 0;", -1000);
        runs("alloc0;root 0 1;", -1001);
        runs("write 0 0 -;", -1000);
        runs("alloc1;write 0 1 -;", -1001);
        runs("alloc1;write 0 0 999;", -1001);
        runs("step 1;", -1000);
        runs("start;start;", -1001);
        runs("start;step 0;", -1001);
        runs("start;step 201;", -1001);
        runs("alloc4;alloc4;alloc4;alloc4;alloc3;alloc0;minor;", -1005);

        GenerationalHeap heap = new GenerationalHeap();
        due.is("runScript()", Calls.run(heap, "alloc 0;root 4 0;alloc 0;"), -1001);
        due.is("the commands before keep their effect", heap.youngCount(), 1);

        GenerationalHeap sweeping = Calls.withOld(0);
        due.is("a white target", Calls.run(sweeping, "start;step1;root 0 0;"), -1002);
        due.is("phase()", sweeping.phase(), GenerationalHeap.SWEEPING);
        due.is("errors", Calls.errors(sweeping), "0 0 0");
    }

    private static void nothingRunsBeforeAllIsParsed() {
        GenerationalHeap heap = new GenerationalHeap();
        due.is("runScript()", Calls.run(heap, "alloc 0;alloc 0;alloc 5;start"), -10 - 29);
        due.is("youngCount()", heap.youngCount(), 0);
    }

    private static void oneObjectRunsManyScripts() {
        GenerationalHeap heap = new GenerationalHeap();
        due.is("a wrong script", Calls.run(heap, "minor;mino;"), -10 - 6);
        due.is("the same again", heap.runScript(), -10 - 6);
        due.is("a good one", Calls.run(heap, "minor;minor;"), 2);
        due.is("a failing one", Calls.run(heap, "minor;step1;"), -1001);
        due.is("a good one", Calls.run(heap, "alloc 1;"), 1);
        due.is("the same again", heap.runScript(), 1);
        due.is("a shorter text than before", Calls.run(heap, "alloc"), -10 - 5);
        due.is("no text", Calls.run(heap, ""), -10);
        due.is("youngCount()", heap.youngCount(), 2);
    }

    private static void fullTexts() {
        runs("minor;".repeat(25), 25);
        runs("start;step3;".repeat(12) + "start;", 25);
        runs("minor;".repeat(24) + "minor ", -10 - 150);
        runs("minor;".repeat(24) + "minorr", -10 - 144);
        runs(" ".repeat(150), -10 - 150);
        runs(" ".repeat(144) + "minor;", 1);
        runs("root0-;".repeat(21) + "   ", 21);
        runs("minor;".repeat(24) + "step0;", -1024);
    }
}
