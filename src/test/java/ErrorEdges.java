/** The cases that ERRORS names. */
final class ErrorEdges {
    private static final int INVALID = GenerationalHeap.INVALID;
    private static final int REJECTED = GenerationalHeap.REJECTED;
    private static final int FULL = GenerationalHeap.FULL;

    /** Makes the same object anew each time, so that two of them can be held together. */
    private interface Scene {
        Run make(Due due);
    }

    private ErrorEdges() {
    }

    static void tests(Edges edges) {
        edges.in("ERRORS")
            .of("A method that fails returns an error code and changes nothing except the counter"
                + " of that error, which grows by 1.", ErrorEdges::failuresChangeNothing)
            .of("INVALID means that an argument is out of range or names an object that does not"
                + " exist.", ErrorEdges::invalid)
            .of("REJECTED means that the state does not allow the call.", ErrorEdges::rejected)
            .of("FULL means that a capacity would be exceeded.", ErrorEdges::full)
            .of("If two errors apply, INVALID is returned before REJECTED, and REJECTED before"
                + " FULL.", ErrorEdges::invalidComesFirst);
    }

    private static void failuresChangeNothing(Due due) {
        String anywhere = "reset(7, 16, 1) reset(8, 129, 1) reset(64, 128, 6) allocate(-1)"
            + " allocate(5) write(0, 2, 0) write(9, 0, 0) write(0, 0, 9) setRoot(4, 0)"
            + " setRoot(0, 9) stepMajor(0) stepMajor(201) isOld(9) age(9) reference(0, 2)"
            + " reference(9, 0) root(4) colour(9) youngObject(-1) remembered(-1) describe(9)"
            + " outputByte(-1) append(128) append(-1) errorCount(3)";
        Scene[] scenes = {ErrorEdges::idle, ErrorEdges::marking, ErrorEdges::sweeping};
        for (Scene scene : scenes) {
            changesNothing(due, scene, anywhere, INVALID);
            changesNothing(due, scene, "allocate(0)", FULL);
            changesNothing(due, scene, "append(32)", FULL);
        }
        changesNothing(due, ErrorEdges::idle, "stepMajor(1) colour(0) colour(2)", REJECTED);
        changesNothing(due, ErrorEdges::marking, "startMajor() colour(3)", REJECTED);
        changesNothing(due, ErrorEdges::sweeping, "startMajor() colour(3) write(0, 0, 1)"
            + " write(3, 0, 1) write(1, 0, 1) setRoot(0, 1) setRoot(3, 1)", REJECTED);
    }

    /** Old 0 (in root 0) and 1 with two fields, old 2; young from 3 on; all buffers full. */
    private static Run idle(Due due) {
        Run run = new Run(due, "reset(8, 16, 2) allocate(2) allocate(2) allocate(0) setRoot(0, 0)")
            .does("setRoot(1, 1) setRoot(2, 2)").many(2, "minorCollection()")
            .does("setRoot(1, NULL) setRoot(2, NULL) allocate(2) allocate(4) write(0, 1, 3)")
            .does("write(1, 0, 4) write(1, 1, 2) describe(1)");
        run.type("alloc 4;root 3 0;minor;start;step 1;minor" + " ".repeat(108) + ";");
        return run.due("youngWords()", 8).errors(0, 0, 0);
    }

    private static Run marking(Due due) {
        return idle(due).does("setRoot(3, 3) startMajor()").due("greyCount()", 1);
    }

    private static Run sweeping(Due due) {
        return marking(due).does("stepMajor(2)").due("phase()", GenerationalHeap.SWEEPING);
    }

    /** Each call fails; behind it the object goes on as one on which another call failed. */
    private static void changesNothing(Due due, Scene scene, String calls, int code) {
        for (String call : calls.split("(?<=\\)) ")) {
            Run run = scene.make(due).due(call, code);
            run.errors(code == INVALID ? 1 : 0, code == REJECTED ? 1 : 0, code == FULL ? 1 : 0);
            Run other = scene.make(due);
            failOtherwise(other, call, code);
            goOnAlike(run, other);
        }
    }

    private static void failOtherwise(Run run, String call, int code) {
        if (code == INVALID) {
            run.due(call.equals("root(4)") ? "age(9)" : "root(4)", INVALID);
        } else if (code == FULL) {
            run.due(call.startsWith("append") ? "allocate(0)" : "append(0)", FULL);
        } else if (run.ask("phase()") == GenerationalHeap.IDLE) {
            run.due(call.equals("colour(0)") ? "stepMajor(1)" : "colour(0)", REJECTED);
        } else {
            run.due(call.equals("startMajor()") ? "colour(3)" : "startMajor()", REJECTED);
        }
    }

    /** What can't be seen at once, such as the two queues, shows in what later calls do. */
    private static void goOnAlike(Run run, Run other) {
        String[] later = {"stepMajor(1)", "outputByte(4)", "minorCollection()", "stepMajor(1)",
            "runScript()", "stepMajor(2)", "minorCollection()", "allocate(4)", "startMajor()",
            "stepMajor(200)", "allocate(2)", "allocate(1)", "allocate(0)"};
        for (String call : later) {
            run.due("digest()", other.ask("digest()"));
            run.due(call, other.ask(call));
        }
        run.due("digest()", other.ask("digest()"));
    }

    private static void invalid(Due due) {
        new Run(due, "allocate(1)").due("allocate(5) allocate(-1)", INVALID)
            .due("reference(0, 1) reference(0, -1)", INVALID)
            .due("age(1) age(-1) age(99) age(100) age(max) age(min)", INVALID)
            .due("write(0, 0, 1) write(1, 0, 0) setRoot(0, 1)", INVALID).errors(13, 0, 0);
        // An object that was freed, by either collector, does not exist.
        new Run(due, "allocate(0) minorCollection()").due("age(0) setRoot(0, 0)", INVALID);
        Run.withOld(due, 0).does("startMajor() stepMajor(200)")
            .due("age(0) setRoot(0, 0)", INVALID);
        new Run(due, "allocate(0) reset(8, 16, 1)").due("age(0) setRoot(0, 0)", INVALID);
    }

    private static void rejected(Due due) {
        new Run(due, "allocate(0)").due("stepMajor(1) colour(0)", REJECTED)
            .does("startMajor()").due("startMajor() colour(0)", REJECTED).errors(0, 4, 0);
        Run run = Run.sweeping(due).due("startMajor() setRoot(1, 1) write(0, 0, 1)", REJECTED);
        run.errors(0, 3, 0).does("stepMajor(200)").due("stepMajor(1) colour(0)", REJECTED)
            .errors(0, 5, 0);
    }

    private static void full(Due due) {
        new Run(due).many(23, "allocate(0)").due("allocate(1)", FULL).due("allocate(0)", 23)
            .due("allocate(0)", FULL).errors(0, 0, 2);
        new Run(due).type(" ".repeat(149)).due("append(0)", 150).due("append(0)", FULL)
            .errors(0, 0, 1);
        new Run(due, "reset(64, 128, 1)").many(50, "allocate(0)").does("minorCollection()")
            .many(50, "allocate(0)").does("minorCollection()").due("allocate(0)", FULL)
            .errors(0, 0, 1);
    }

    private static void invalidComesFirst(Due due) {
        Run run = new Run(due).due("stepMajor(0) stepMajor(201)", INVALID).errors(2, 0, 0);
        run.due("colour(0)", INVALID).errors(3, 0, 0);
        Run full = new Run(due).many(24, "allocate(0)").due("allocate(-1) allocate(5)", INVALID);
        full.errors(2, 0, 0).due("allocate(4)", FULL);
        new Run(due).type(" ".repeat(150)).due("append(-1) append(128)", INVALID).errors(2, 0, 0)
            .due("append(127)", FULL);
        Run.sweeping(due).due("setRoot(4, 1) setRoot(-1, 1)", INVALID)
            .due("write(0, 2, 1) write(0, -1, 1) write(2, 0, 1) write(-1, 0, 1)", INVALID)
            .errors(6, 0, 0).due("setRoot(3, 1) write(0, 1, 1)", REJECTED);
    }
}
