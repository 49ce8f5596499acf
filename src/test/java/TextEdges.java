import java.math.BigInteger;

/** The cases that the promises 27 to 30, 32 and 33 name. */
final class TextEdges {
    private static final int INVALID = GenerationalHeap.INVALID;
    private static final int REJECTED = GenerationalHeap.REJECTED;
    private static final int FULL = GenerationalHeap.FULL;
    private static final int NONE = GenerationalHeap.NONE;

    private TextEdges() {
    }

    static void tests(Edges edges) {
        output(edges);
        text(edges);
        edges.in("32")
            .of("Returns an error counter.", TextEdges::errorCounters)
            .of("- `kind`: 0 for INVALID, 1 for REJECTED, 2 for FULL", TextEdges::errorKinds)
            .of("Returns the number of failed calls of that kind", TextEdges::failedCalls)
            .of("INVALID (which is counted, too) if kind is out of range.", TextEdges::wrongKinds);
        digest(edges.in("33"));
    }

    private static void output(Edges edges) {
        edges.in("27")
            .of("Writes a description of an object into the output buffer, replacing its"
                + " contents.", TextEdges::replaces)
            .of("The description is \"#\", the id, a space, \"young\" or \"old\", a space,"
                + " \"age=\", the age, a space, \"[\", the references of all fields separated by"
                + " commas, and \"]\".", TextEdges::descriptions)
            .of("NULL is written as \"-\".", TextEdges::nullIsAMinus)
            .of("Example: \"#7 young age=1 [3,-]\"", TextEdges::example)
            .of("an object without fields ends with \"[]\".", TextEdges::withoutFields)
            .of("- `object`: id of an existing object", TextEdges::describesExisting)
            .of("Returns the length of the output buffer", TextEdges::describeAnswers)
            .of("INVALID if the object does not exist.", TextEdges::describeIsInvalid);
        edges.in("28")
            .of("Returns a byte of the output buffer.", TextEdges::bytesOfTheOutput)
            .of("- `index`: position, 0 or more", TextEdges::outputPositions)
            .of("Returns the byte", TextEdges::outputAnswers)
            .of("NONE if index is not below the length of the output buffer",
                TextEdges::behindTheOutput)
            .of("INVALID if index is negative.", TextEdges::outputIsInvalid);
    }

    private static void text(Edges edges) {
        edges.in("29")
            .of("Appends a byte to the text buffer.", TextEdges::appends)
            .of("- `value`: 0 to 127", TextEdges::appendValues)
            .of("Returns the new length of the text buffer", TextEdges::appendAnswers)
            .of("INVALID if value is out of range", TextEdges::appendIsInvalid)
            .of("FULL if the buffer has 150 bytes.", TextEdges::appendIsFull);
        edges.in("30")
            .of("Empties the text buffer.", TextEdges::empties)
            .of("Returns its previous length.", TextEdges::clearAnswers);
    }

    private static void digest(Edges edges) {
        edges.of("Returns a hash of the state.", TextEdges::hashOfTheState)
            .of("It starts with h = 18028.", TextEdges::startOfTheHash)
            .of("For each of the following values v, in this order, h becomes 31 * h + v (long"
                + " arithmetic, overflow wraps).", TextEdges::overflowWraps)
            .of("errorCount(0) to errorCount(2), the length of the text buffer, the length of the"
                + " output buffer;", TextEdges::errorsAndBuffers)
            .of("root(0) to root(3), phase(), greyCount(), the number of objects allocated since"
                + " the last reset, promotionFailures(), the number of minor collections since the"
                + " last reset, majorCount();", TextEdges::rootsAndCounters)
            .of("youngCount(), each element of the nursery, youngWords(), oldCount(), oldWords(),"
                + " rememberedCount(), each element of the remembered set;", TextEdges::lists)
            .of("for each existing object by rising id: its id, isOld(), age(), the number of its"
                + " fields, the references of its fields, and its colour if it is old and the phase"
                + " is not IDLE;", TextEdges::eachObject)
            .of("reachableCount().", TextEdges::reachableComesLast)
            .of("Returns the hash.", TextEdges::digestAnswers);
    }

    // ---- promise 27

    private static void replaces(Due due) {
        new Run(due, "allocate(4) allocate(0) describe(0)").output("#0 young age=0 [-,-,-,-]")
            .does("describe(1)").output("#1 young age=0 []")
            .does("describe(0) describe(0)").output("#0 young age=0 [-,-,-,-]");
    }

    private static void descriptions(Due due) {
        Run run = Run.withOld(due, 4).does("allocate(3) write(0, 0, 0) write(0, 1, 1)")
            .does("write(0, 3, 0) write(1, 2, 0)");
        run.does("describe(0)").output("#0 old age=1 [0,1,-,0]").does("describe(1)")
            .output("#1 young age=0 [-,-,0]");
        // The longest: ids of two digits, and an age of three.
        Run aged = new Run(due, "reset(64, 16, 1)").many(50, "allocate(0)")
            .does("minorCollection()").many(46, "allocate(0)").does("minorCollection()")
            .many(4, "allocate(4)")
            .does("setRoot(0, 96) setRoot(1, 97) setRoot(2, 98) setRoot(3, 99) write(99, 0, 96)")
            .does("write(99, 1, 97) write(99, 2, 98) write(99, 3, 99)")
            .many(100, "minorCollection()");
        aged.does("describe(99)").output("#99 young age=100 [96,97,98,99]").does("describe(96)")
            .output("#96 old age=1 [-,-,-,-]");
    }

    private static void nullIsAMinus(Due due) {
        new Run(due, "allocate(1) describe(0)").output("#0 young age=0 [-]")
            .does("write(0, 0, 0) describe(0)").output("#0 young age=0 [0]")
            .does("write(0, 0, NULL) describe(0)").output("#0 young age=0 [-]");
    }

    private static void example(Due due) {
        new Run(due).many(7, "allocate(0)").does("allocate(2) setRoot(0, 7) write(7, 0, 3)")
            .does("minorCollection()").due("describe(7)", 20).output("#7 young age=1 [3,-]");
    }

    private static void withoutFields(Due due) {
        new Run(due, "allocate(0) describe(0)").output("#0 young age=0 []");
        Run.withOld(due, 0).does("describe(0)").output("#0 old age=1 []");
    }

    private static void describesExisting(Due due) {
        new Run(due, "allocate(0)").due("describe(0)", 17).due("describe(1) describe(-1)", INVALID);
        new Run(due, "reset(64, 128, 1)").many(50, "allocate(0)").does("minorCollection()")
            .many(50, "allocate(0)").due("describe(99)", 18).due("describe(0)", INVALID)
            .output("#99 young age=0 []");
        // A white object, and one that holds the id of a freed one, exist.
        Run.withOld(due, 0, 1).does("write(1, 0, 0) startMajor() stepMajor(2)")
            .due("describe(1)", 16).output("#1 old age=1 [0]").due("describe(0)", INVALID);
    }

    private static void describeAnswers(Due due) {
        Run run = new Run(due, "allocate(0) allocate(1) allocate(4)").due("describe(0)", 17)
            .due("describe(1)", 18).due("describe(2)", 24).due("outputByte(23)", ']')
            .due("outputByte(24)", NONE);
        run.due("describe(0)", 17).due("outputByte(16)", ']').due("outputByte(17)", NONE);
    }

    private static void describeIsInvalid(Due due) {
        Run run = new Run(due, "allocate(0) describe(0) minorCollection()");
        run.due("describe(0) describe(1) describe(-1) describe(-2) describe(99) describe(100)"
            + " describe(max) describe(min)", INVALID).errors(8, 0, 0);
        run.output("#0 young age=0 []");
        Run.withOld(due, 0).does("startMajor() stepMajor(200)").due("describe(0)", INVALID);
        new Run(due).due("describe(0)", INVALID).due("outputByte(0)", NONE);
    }

    // ---- promise 28

    private static void bytesOfTheOutput(Due due) {
        new Run(due, "allocate(0) describe(0)").due("outputByte(0)", '#').due("outputByte(1)", '0')
            .due("outputByte(2)", ' ').due("outputByte(16)", ']');
    }

    private static void outputPositions(Due due) {
        new Run(due, "allocate(0) describe(0)").due("outputByte(0)", '#')
            .due("outputByte(16)", ']').due("outputByte(17) outputByte(max)", NONE)
            .due("outputByte(-1)", INVALID);
    }

    private static void outputAnswers(Due due) {
        Run run = new Run(due, "allocate(2) write(0, 0, 0) describe(0)");
        String want = "#0 young age=0 [0,-]";
        for (int k = 0; k < want.length(); k++) {
            run.due("outputByte(" + k + ")", want.charAt(k));
        }
        run.errors(0, 0, 0);
    }

    private static void behindTheOutput(Due due) {
        new Run(due).due("outputByte(0) outputByte(1) outputByte(max)", NONE).errors(0, 0, 0);
        Run run = new Run(due, "allocate(4) allocate(0) describe(0) describe(1)");
        run.due("outputByte(17) outputByte(23) outputByte(100) outputByte(max)", NONE)
            .errors(0, 0, 0);
    }

    private static void outputIsInvalid(Due due) {
        new Run(due).due("outputByte(-1) outputByte(-2) outputByte(min)", INVALID)
            .errors(3, 0, 0);
        new Run(due, "allocate(0) describe(0)").due("outputByte(-1) outputByte(min)", INVALID)
            .errors(2, 0, 0);
    }

    // ---- promises 29 and 30

    private static void appends(Due due) {
        new Run(due).type("mino").due("runScript()", -10).does("append(114) append(59)")
            .due("runScript()", 1);
        new Run(due).type("alloc 4;").does("append(59)").due("runScript()", -18)
            .due("youngCount()", 0);
    }

    private static void appendValues(Due due) {
        Run run = new Run(due);
        for (int value = 0; value <= 127; value++) {
            run.due("append(" + value + ")", value + 1);
        }
        run.errors(0, 0, 0).due("append(-1) append(128)", INVALID).due("clearText()", 128);
    }

    private static void appendAnswers(Due due) {
        Run run = new Run(due);
        for (int length = 1; length <= 150; length++) {
            run.due("append(32)", length);
        }
        run.due("append(32)", FULL).does("clearText()").due("append(32)", 1);
    }

    private static void appendIsInvalid(Due due) {
        Run run = new Run(due).due("append(-1) append(128) append(255) append(256) append(max)"
            + " append(min)", INVALID).errors(6, 0, 0);
        // 315 and -197 would be a semicolon, if they were cut to eight bits.
        run.type("minor").due("append(315) append(-197)", INVALID).due("runScript()", -15)
            .due("clearText()", 5);
    }

    private static void appendIsFull(Due due) {
        Run run = new Run(due).type(" ".repeat(149)).due("append(59)", 150)
            .due("append(59) append(0)", FULL).errors(0, 0, 2).due("append(128)", INVALID);
        // The text that is there stays: its first wrong byte is the semicolon.
        run.due("runScript()", -10 - 149).due("clearText()", 150).due("append(59)", 1);
    }

    private static void empties(Due due) {
        new Run(due).type("minor;").due("clearText()", 6).due("runScript()", -10)
            .due("clearText()", 0).type("start;").due("runScript()", 1)
            .due("phase()", GenerationalHeap.MARKING);
        new Run(due).type("x".repeat(150)).due("clearText()", 150).due("append(59)", 1)
            .due("runScript()", -10);
    }

    private static void clearAnswers(Due due) {
        new Run(due).due("clearText() clearText()", 0).does("append(0)").due("clearText()", 1)
            .due("clearText()", 0).type(" ".repeat(150)).due("append(32)", FULL)
            .due("clearText()", 150).due("clearText()", 0).errors(0, 0, 1);
    }

    // ---- promise 32

    private static void errorCounters(Due due) {
        new Run(due).due("errorCount(0) errorCount(1) errorCount(2)", 0)
            .due("root(4)", INVALID).due("errorCount(0)", 1).due("errorCount(1) errorCount(2)", 0)
            .due("stepMajor(1)", REJECTED).due("errorCount(0) errorCount(1)", 1)
            .due("errorCount(2)", 0);
    }

    private static void errorKinds(Due due) {
        new Run(due).due("age(0)", INVALID).errors(1, 0, 0);
        new Run(due).due("stepMajor(1)", REJECTED).errors(0, 1, 0);
        new Run(due).many(24, "allocate(0)").due("allocate(0)", FULL).errors(0, 0, 1);
        new Run(due).due("errorCount(-1) errorCount(3)", INVALID);
    }

    private static void failedCalls(Due due) {
        // Each counts once; neither NONE nor a 0 is a failure, nor is what a script does.
        Run run = new Run(due).due("outputByte(0) youngObject(0) remembered(0)", NONE)
            .due("exists(-1)", 0).script("step 1;", -1000).script("x", -10).errors(0, 0, 0);
        run.due("root(4) root(5) root(6)", INVALID).errors(3, 0, 0);
        run.does("reset(8, 16, 1)").errors(3, 0, 0);
    }

    private static void wrongKinds(Due due) {
        Run run = new Run(due).due("errorCount(3)", INVALID).due("errorCount(0)", 1);
        run.due("errorCount(-1) errorCount(-2) errorCount(-3) errorCount(-4) errorCount(max)"
            + " errorCount(min)", INVALID).errors(7, 0, 0);
    }

    // ---- promise 33

    /** The hash in numbers without a bound, cut to 64 bits at the end alone. */
    private static long hash(int... values) {
        BigInteger hash = BigInteger.valueOf(18028);
        for (int value : values) {
            hash = hash.multiply(BigInteger.valueOf(31)).add(BigInteger.valueOf(value));
        }
        return hash.longValue();
    }

    private static void hashOfTheState(Due due) {
        Run run = new Run(due);
        long fresh = run.ask("digest()");
        run.due("digest() digest()", fresh).does("exists(0) phase()").due("digest()", fresh);
        run.does("allocate(0)");
        due.holds("an object shows in the digest", run.ask("digest()") != fresh);
        // The same state by another way, and what the capacities allow isn't part of it.
        Run other = new Run(due, "reset(64, 128, 5) startMajor() reset(8, 16, 1) allocate(0)");
        other.due("digest()", run.ask("digest()"));
    }

    private static void startOfTheHash(Due due) {
        new Run(due).due("digest()", hash(0, 0, 0, 0, 0, -1, -1, -1, -1, 0, 0, 0, 0, 0, 0,
            0, 0, 0, 0, 0, 0));
    }

    private static void overflowWraps(Due due) {
        // Negative values, and so many of them that the hash overflows again and again.
        Run run = new Run(due).many(4, "allocate(4)");
        run.due("digest()", hash(0, 0, 0, 0, 0, -1, -1, -1, -1, 0, 0, 4, 0, 0, 0,
            4, 0, 1, 2, 3, 20, 0, 0, 0,
            0, 0, 0, 4, -1, -1, -1, -1, 1, 0, 0, 4, -1, -1, -1, -1,
            2, 0, 0, 4, -1, -1, -1, -1, 3, 0, 0, 4, -1, -1, -1, -1, 0));
    }

    private static void errorsAndBuffers(Due due) {
        Run run = new Run(due).due("root(4) root(4) root(4)", INVALID)
            .due("stepMajor(1) stepMajor(1)", REJECTED).type(" ".repeat(150))
            .due("append(0)", FULL);
        run.due("digest()", hash(3, 2, 1, 150, 0, -1, -1, -1, -1, 0, 0, 0, 0, 0, 0,
            0, 0, 0, 0, 0, 0));
        run.does("allocate(0) describe(0) minorCollection() clearText()");
        run.due("digest()", hash(3, 2, 1, 0, 17, -1, -1, -1, -1, 0, 0, 1, 0, 1, 0,
            0, 0, 0, 0, 0, 0));
    }

    private static void rootsAndCounters(Due due) {
        Run run = new Run(due, "reset(64, 16, 1)").many(4, "allocate(4)")
            .does("setRoot(0, 3) setRoot(1, 2) setRoot(3, 1)").many(2, "minorCollection()")
            .does("allocate(4) setRoot(2, 4)").many(3, "minorCollection()");
        run.does("startMajor() stepMajor(200) startMajor()");
        run.due("digest()", hash(0, 0, 0, 0, 0, 3, 2, 4, 1, 1, 3, 5, 3, 5, 1,
            1, 4, 5, 3, 15, 0,
            1, 1, 1, 4, -1, -1, -1, -1, 1, 2, 1, 1, 4, -1, -1, -1, -1, 1,
            3, 1, 1, 4, -1, -1, -1, -1, 1, 4, 0, 3, 4, -1, -1, -1, -1, 4));
        run.does("reset(64, 16, 1)").due("digest()", new Run(due).ask("digest()"));
        // A hundred objects allocated, and none that exists.
        new Run(due, "reset(64, 128, 1)").many(50, "allocate(0)").does("minorCollection()")
            .many(50, "allocate(0)").does("minorCollection()")
            .due("digest()", hash(0, 0, 0, 0, 0, -1, -1, -1, -1, 0, 0, 100, 0, 2, 0,
                0, 0, 0, 0, 0, 0));
    }

    private static void lists(Due due) {
        Run run = Run.withOld(due, 1, 1).does("allocate(0) allocate(1) write(1, 0, 3)")
            .does("write(0, 0, 2)");
        run.due("digest()", hash(0, 0, 0, 0, 0, -1, -1, -1, -1, 0, 0, 4, 0, 2, 0,
            2, 2, 3, 3, 2, 4, 2, 1, 0,
            0, 1, 1, 1, 2, 1, 1, 1, 1, 3, 2, 0, 0, 0, 3, 0, 0, 1, -1, 0));
        // The lists' own order, not that of the ids.
        Run turned = new Run(due, "allocate(0) allocate(0) setRoot(0, 1) setRoot(1, 0)")
            .does("minorCollection()");
        turned.due("digest()", hash(0, 0, 0, 0, 0, 1, 0, -1, -1, 0, 0, 2, 0, 1, 0,
            2, 1, 0, 2, 0, 0, 0, 0, 0, 1, 0, 1, 0, 1, 0, 2));
    }

    private static void eachObject(Due due) {
        Run run = Run.withOld(due, 0, 2, 0).does("write(1, 0, 0) setRoot(3, 2) allocate(0)")
            .does("startMajor()");
        run.due("digest()", hash(0, 0, 0, 0, 0, -1, -1, -1, 2, 1, 1, 4, 0, 3, 0,
            1, 3, 1, 3, 5, 0,
            0, 1, 1, 0, 0, 1, 1, 1, 2, 0, -1, 0, 2, 1, 1, 0, 1, 3, 0, 0, 0, 1));
        // A freed object is left out, though a field may hold its id.
        run.does("stepMajor(3)").due("exists(0)", 0);
        run.due("digest()", hash(0, 0, 0, 0, 0, -1, -1, -1, 2, 2, 0, 4, 0, 3, 0,
            1, 3, 1, 2, 4, 0,
            1, 1, 1, 2, 0, -1, 0, 2, 1, 1, 0, 2, 3, 0, 0, 0, 1));
        run.does("stepMajor(200)").due("digest()", hash(0, 0, 0, 0, 0, -1, -1, -1, 2,
            0, 0, 4, 0, 3, 1, 1, 3, 1, 1, 1, 0, 2, 1, 1, 0, 3, 0, 0, 0, 1));
    }

    private static void reachableComesLast(Due due) {
        Run run = new Run(due, "allocate(0)");
        int[] values = {0, 0, 0, 0, 0, -1, -1, -1, -1, 0, 0, 1, 0, 0, 0,
            1, 0, 1, 0, 0, 0, 0, 0, 0, 0, 0};
        run.due("digest()", hash(values));
        values[8] = 0;
        values[values.length - 1] = 1;
        run.does("setRoot(3, 0)").due("digest()", hash(values));
    }

    private static void digestAnswers(Due due) {
        Run run = new Run(due, "allocate(0) setRoot(0, 0)");
        run.due("digest() digest()", hash(0, 0, 0, 0, 0, 0, -1, -1, -1, 0, 0, 1, 0, 0, 0,
            1, 0, 1, 0, 0, 0, 0, 0, 0, 0, 1)).errors(0, 0, 0);
    }
}
