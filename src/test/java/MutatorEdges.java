/** The cases that the promises 1 to 5 name. */
final class MutatorEdges {
    private static final int NULL = GenerationalHeap.NULL;
    private static final int INVALID = GenerationalHeap.INVALID;
    private static final int REJECTED = GenerationalHeap.REJECTED;
    private static final int FULL = GenerationalHeap.FULL;
    private static final int NONE = GenerationalHeap.NONE;
    private static final int WHITE = GenerationalHeap.WHITE;
    private static final int GREY = GenerationalHeap.GREY;

    private MutatorEdges() {
    }

    static void tests(Edges edges) {
        edges.in("1")
            .of("Creates a heap with nursery capacity 24, old capacity 60 and tenure threshold 2.",
                MutatorEdges::newCapacities)
            .of("There are no objects, all roots are NULL, the phase is IDLE, all counters are 0"
                + " and both buffers are empty.", MutatorEdges::newState);
        edges.in("2")
            .of("Resets the heap: no objects, ids start at 0 again, all roots NULL, empty"
                + " remembered set, phase IDLE, the counters of promotion failures, of minor"
                + " collections and of major collections 0.", MutatorEdges::resets)
            .of("The error counters and the two buffers stay as they are.",
                MutatorEdges::resetKeeps)
            .of("- `nursery`: nursery capacity in words, 8 to 64", MutatorEdges::nurseryCapacity)
            .of("- `old`: old capacity in words, 16 to 128", MutatorEdges::oldCapacity)
            .of("- `tenure`: tenure threshold, 1 to 5", MutatorEdges::tenure)
            .of("Returns the number of objects that existed before", MutatorEdges::resetAnswers)
            .of("INVALID if an argument is out of range.", MutatorEdges::resetRefuses);
        edges.in("3")
            .of("Allocates a young object with age 0.", MutatorEdges::allocatesYoung)
            .of("All its fields are NULL.", MutatorEdges::fieldsAreNull)
            .of("- `fields`: number of fields, 0 to 4", MutatorEdges::fieldCounts)
            .of("Returns the id of the new object", MutatorEdges::allocateAnswers)
            .of("INVALID if fields is out of range", MutatorEdges::wrongFieldCounts)
            .of("FULL if the free space of the nursery is less than the size of the object or if"
                + " 100 objects have been allocated since the last reset.",
                MutatorEdges::allocateIsFull);
        write(edges.in("4"));
        setRoot(edges.in("5"));
    }

    private static void write(Edges edges) {
        edges.of("Stores a reference into a field of an object.", MutatorEdges::writeStores)
            .of("Updates the remembered set and shades the reference as described above.",
                MutatorEdges::writeRemembersAndShades)
            .of("- `object`: id of an existing object", MutatorEdges::writeObjects)
            .of("- `field`: index of a field of that object", MutatorEdges::writeFields)
            .of("- `target`: id of an existing object, or NULL", MutatorEdges::writeTargets)
            .of("Returns the previous reference", MutatorEdges::writeAnswers)
            .of("INVALID if an argument is out of range or an object does not exist",
                MutatorEdges::writeIsInvalid)
            .of("REJECTED if the phase is SWEEPING and target is a white object.",
                MutatorEdges::writeIsRejected);
    }

    private static void setRoot(Edges edges) {
        edges.of("Stores a reference into a root.", MutatorEdges::rootStores)
            .of("Shades the reference as described above.", MutatorEdges::rootShades)
            .of("- `index`: 0 to 3", MutatorEdges::rootIndexes)
            .of("- `target`: id of an existing object, or NULL", MutatorEdges::rootTargets)
            .of("Returns the previous reference", MutatorEdges::rootAnswers)
            .of("INVALID if index is out of range or target does not exist",
                MutatorEdges::rootIsInvalid)
            .of("REJECTED if the phase is SWEEPING and target is a white object.",
                MutatorEdges::rootIsRejected);
    }

    // ---- promise 1

    private static void newCapacities(Due due) {
        new Run(due).many(23, "allocate(0)").due("allocate(1)", FULL).due("allocate(0)", 23)
            .due("allocate(0)", FULL);
        Run tenured = new Run(due, "allocate(0) setRoot(0, 0) minorCollection()")
            .due("isOld(0)", 0);
        tenured.does("minorCollection()").due("isOld(0)", 1);
        Run old = new Run(due);
        for (int id = 0; id < 12; id++) {
            old.does("allocate(4) write(" + id + ", 0, " + (id - 1) + ") setRoot(0, " + id + ")")
                .many(2, "minorCollection()");
        }
        old.due("oldWords()", 60).due("promotionFailures()", 0);
        old.does("allocate(0) setRoot(1, 12)").many(2, "minorCollection()")
            .due("oldWords()", 60).due("promotionFailures()", 1);
    }

    private static void newState(Due due) {
        new Run(due).due("exists(0) youngCount() oldCount() reachableCount()", 0)
            .due("youngWords() oldWords() rememberedCount() greyCount()", 0)
            .due("root(0) root(1) root(2) root(3)", NULL).due("phase()", GenerationalHeap.IDLE)
            .due("promotionFailures() majorCount()", 0).errors(0, 0, 0)
            .due("outputByte(0)", NONE).due("clearText()", 0).due("runScript()", -10);
    }

    // ---- promise 2

    private static void resets(Due due) {
        Run run = new Run(due, "reset(64, 16, 1)").many(4, "allocate(4)")
            .does("setRoot(0, 0) setRoot(1, 1) setRoot(2, 2) setRoot(3, 3) minorCollection()")
            .does("startMajor() stepMajor(200) write(0, 0, 3) startMajor()");
        run.due("promotionFailures() majorCount() rememberedCount()", 1).due("greyCount()", 3)
            .due("phase()", GenerationalHeap.MARKING);
        run.does("reset(24, 60, 2)").due("exists(0) exists(1) exists(2) exists(3)", 0)
            .due("youngCount() oldCount() youngWords() oldWords() reachableCount()", 0)
            .due("root(0) root(1) root(2) root(3)", NULL).remembered("")
            .due("phase()", GenerationalHeap.IDLE).due("greyCount()", 0)
            .due("promotionFailures() majorCount()", 0);
        // The number of minor collections shows in the digest alone.
        run.due("digest()", new Run(due).ask("digest()"));
        run.due("allocate(4)", 0).due("allocate(0)", 1);
        // Fields that objects of the former heap had under the same ids mean nothing.
        Run fewer = new Run(due).many(4, "allocate(4)").does("write(0, 1, 3) write(0, 2, 3)")
            .does("reset(64, 128, 2) allocate(1) setRoot(0, 0)").many(2, "minorCollection()")
            .many(3, "allocate(0)").does("setRoot(1, 3)").due("reachableCount()", 2);
        fewer.does("write(0, 0, 1) write(0, 0, NULL)").remembered("0");
        fewer.due("minorCollection()", 2).remembered("").nursery("3").due("startMajor()", 1);
        // Nor does a sweep list outlive it.
        Run swept = Run.sweeping(due).does("reset(64, 128, 1) allocate(0) setRoot(0, 0)")
            .does("minorCollection() startMajor()").due("stepMajor(2)", 0)
            .due("phase()", GenerationalHeap.SWEEPING);
        swept.due("stepMajor(1)", 0).due("phase()", GenerationalHeap.SWEEPING)
            .due("stepMajor(1)", 0).due("phase()", GenerationalHeap.IDLE);
    }

    private static void resetKeeps(Due due) {
        Run run = new Run(due).due("allocate(5) root(4)", INVALID).due("stepMajor(1)", REJECTED)
            .many(24, "allocate(0)").due("allocate(0)", FULL).does("describe(23)").type("alloc 4;");
        run.due("reset(8, 16, 1)", 24).errors(2, 1, 1).output("#23 young age=0 []");
        run.due("runScript()", 1).due("clearText()", 8);
    }

    private static void nurseryCapacity(Due due) {
        new Run(due).due("reset(8, 16, 1)", 0).many(7, "allocate(0)").due("allocate(1)", FULL)
            .due("allocate(0)", 7).due("allocate(0)", FULL);
        new Run(due).due("reset(64, 16, 1)", 0).many(63, "allocate(0)").due("allocate(1)", FULL)
            .due("allocate(0)", 63).due("allocate(0)", FULL);
        new Run(due).due("reset(7, 16, 1) reset(65, 16, 1)", INVALID);
    }

    private static void oldCapacity(Due due) {
        Run least = new Run(due).due("reset(64, 16, 1)", 0);
        fillOld(least, 16);
        Run most = new Run(due).due("reset(64, 128, 1)", 0);
        fillOld(most, 128);
        new Run(due).due("reset(8, 15, 1) reset(8, 129, 1)", INVALID);
    }

    /** A chain of objects with a field each, to the last word; the next one finds no room. */
    private static void fillOld(Run run, int words) {
        for (int id = 0; id < words / 2; id++) {
            run.does("allocate(1) write(" + id + ", 0, " + (id - 1) + ") setRoot(0, " + id + ")")
                .does("minorCollection()");
        }
        run.due("oldWords()", words).due("promotionFailures()", 0);
        run.does("allocate(0) setRoot(1, " + words / 2 + ") minorCollection()")
            .due("oldWords()", words).due("promotionFailures()", 1);
    }

    private static void tenure(Due due) {
        for (int tenure = 1; tenure <= 5; tenure++) {
            Run run = new Run(due).due("reset(8, 16, " + tenure + ")", 0)
                .does("allocate(0) setRoot(0, 0)");
            for (int age = 1; age <= tenure; age++) {
                run.does("minorCollection()").due("isOld(0)", age == tenure ? 1 : 0);
            }
        }
        new Run(due).due("reset(8, 16, 0) reset(8, 16, 6)", INVALID);
    }

    private static void resetAnswers(Due due) {
        new Run(due).due("reset(8, 16, 1)", 0).due("reset(64, 128, 5)", 0);
        new Run(due, "allocate(0) allocate(0) minorCollection() allocate(0)")
            .due("reset(8, 16, 1)", 1).due("reset(8, 16, 1)", 0);
        Run.withOld(due, 0, 0).does("allocate(0)").due("reset(8, 16, 1)", 3);
        Run.withOld(due, 0, 0).does("startMajor() stepMajor(2)").due("reset(8, 16, 1)", 1);
        new Run(due, "reset(64, 128, 1)").many(64, "allocate(0)").due("reset(8, 16, 1)", 64);
    }

    private static void resetRefuses(Due due) {
        String wrong = "reset(7, 16, 1) reset(65, 16, 1) reset(8, 15, 1) reset(8, 129, 1)"
            + " reset(8, 16, 0) reset(8, 16, 6) reset(min, 60, 2) reset(max, 60, 2)"
            + " reset(24, min, 2) reset(24, max, 2) reset(24, 60, min) reset(24, 60, max)"
            + " reset(0, 0, 0) reset(-8, -16, -1)";
        Run run = new Run(due, "allocate(0) setRoot(2, 0)").due(wrong, INVALID).errors(14, 0, 0);
        run.due("exists(0)", 1).due("root(2)", 0).due("allocate(0)", 1);
        // The capacities and the threshold are those from before.
        run.many(22, "allocate(0)").due("allocate(0)", FULL).does("minorCollection()")
            .due("isOld(0)", 0).does("minorCollection()").due("isOld(0)", 1);
        // Nor is one of them taken over when another is wrong.
        for (String call : new String[] {"reset(64, 128, 6)", "reset(64, 15, 5)", "reset(8, 16, 0)",
            "reset(8, 129, 1)", "reset(7, 16, 1)", "reset(65, 128, 5)"}) {
            Run same = new Run(due).due(call, INVALID);
            same.many(24, "allocate(0)").due("allocate(0)", FULL).does("setRoot(0, 0)");
            same.does("minorCollection()").due("isOld(0)", 0).does("minorCollection()")
                .due("isOld(0)", 1);
            fillOld(new Run(due, "reset(64, 16, 1)").due(call, INVALID), 16);
        }
    }

    // ---- promise 3

    private static void allocatesYoung(Due due) {
        new Run(due, "reset(8, 16, 1)").due("allocate(0)", 0).due("isOld(0) age(0)", 0)
            .nursery("0");
        Run.withOld(due, 0).does("startMajor()").due("allocate(4)", 1).due("isOld(1) age(1)", 0)
            .due("colour(1)", REJECTED).due("greyCount()", 0);
        // Where an object of the former heap was old, and aged, under the same id.
        Run.withOld(due, 0).does("reset(8, 16, 5) allocate(0)").due("isOld(0) age(0)", 0);
    }

    private static void fieldsAreNull(Due due) {
        new Run(due, "allocate(0) allocate(4)")
            .due("reference(1, 0) reference(1, 1) reference(1, 2) reference(1, 3)", NULL);
        // Where fields of the former heap held references under the same id.
        new Run(due, "allocate(4) write(0, 0, 0) write(0, 3, 0) reset(8, 16, 1) allocate(4)")
            .due("reference(0, 0) reference(0, 1) reference(0, 2) reference(0, 3)", NULL);
    }

    private static void fieldCounts(Due due) {
        for (int fields = 0; fields <= 4; fields++) {
            new Run(due).due("allocate(" + fields + ")", 0).due("youngWords()", 1 + fields)
                .due("reference(0, " + fields + ")", INVALID);
        }
    }

    private static void allocateAnswers(Due due) {
        new Run(due).due("allocate(4)", 0).due("allocate(0)", 1).does("minorCollection()")
            .due("allocate(2)", 2).does("reset(8, 16, 1)").due("allocate(2)", 0);
        new Run(due, "reset(64, 128, 1)").many(60, "allocate(0)").does("minorCollection()")
            .many(39, "allocate(0)").due("allocate(0)", 99);
    }

    private static void wrongFieldCounts(Due due) {
        Run run = new Run(due).due("allocate(-1) allocate(5) allocate(max) allocate(min)", INVALID);
        run.errors(4, 0, 0).due("youngCount() youngWords()", 0).due("allocate(0)", 0);
    }

    private static void allocateIsFull(Due due) {
        for (int fields = 0; fields <= 4; fields++) {
            Run run = new Run(due).many(24 - fields, "allocate(0)");
            run.due("allocate(" + fields + ")", FULL).due("youngWords()", 24 - fields);
            Run fits = new Run(due).many(23 - fields, "allocate(0)");
            fits.due("allocate(" + fields + ")", 23 - fields).due("youngWords()", 24);
        }
        Run hundred = new Run(due, "reset(64, 128, 1)").many(50, "allocate(0)")
            .does("minorCollection()").many(50, "allocate(0)");
        hundred.due("allocate(0)", FULL).does("minorCollection()").due("allocate(0)", FULL)
            .errors(0, 0, 2).does("reset(64, 128, 1)").due("allocate(0)", 0);
        // What is promoted leaves its room in the nursery.
        new Run(due, "reset(8, 16, 1) allocate(4) allocate(2) setRoot(0, 0) setRoot(1, 1)")
            .due("allocate(0)", FULL).does("minorCollection()").due("allocate(4)", 2);
    }

    // ---- promise 4

    private static void writeStores(Due due) {
        new Run(due, "allocate(4) allocate(4)").does("write(0, 0, 1) write(0, 3, 0)")
            .due("reference(0, 0)", 1).due("reference(0, 1) reference(0, 2)", NULL)
            .due("reference(0, 3)", 0).due("reference(1, 0) reference(1, 3)", NULL);
        new Run(due, "allocate(4) allocate(4) write(0, 3, 1) write(1, 0, 0)")
            .due("reference(0, 3)", 1).due("reference(1, 0)", 0);
    }

    private static void writeRemembersAndShades(Due due) {
        Run run = Run.withOld(due, 2, 0).does("allocate(1) startMajor() write(0, 0, 2)")
            .remembered("0").due("greyCount()", 0);
        run.does("write(0, 1, 1)").remembered("0").due("colour(1)", GREY);
        run.does("write(2, 0, 0)").due("colour(0)", GREY).due("greyCount()", 2).remembered("0");
        new Run(due, "allocate(1) write(0, 0, 0)").remembered("").due("greyCount()", 0);
    }

    private static void writeObjects(Due due) {
        new Run(due, "allocate(1)").due("write(0, 0, 0)", NULL).due("write(1, 0, 0)", INVALID)
            .due("write(-1, 0, 0)", INVALID).does("minorCollection() allocate(1)")
            .due("write(0, 0, 1)", INVALID).due("write(1, 0, 1)", NULL);
        Run run = new Run(due, "reset(64, 128, 1)").many(50, "allocate(0)")
            .does("minorCollection()").many(49, "allocate(0)").does("allocate(1)");
        run.due("write(99, 0, 99)", NULL).due("write(100, 0, 99)", INVALID)
            .due("write(0, 0, 99)", INVALID);
    }

    private static void writeFields(Due due) {
        for (int fields = 0; fields <= 4; fields++) {
            Run run = new Run(due, "allocate(" + fields + ") allocate(4)");
            for (int field = 0; field < fields; field++) {
                run.due("write(0, " + field + ", 1)", NULL);
            }
            run.due("write(0, " + fields + ", 1) write(0, -1, 1)", INVALID);
            run.due("reference(1, 0) reference(1, 3)", NULL);
        }
    }

    private static void writeTargets(Due due) {
        new Run(due, "allocate(1) allocate(0)").due("write(0, 0, 0)", NULL)
            .due("write(0, 0, 1)", 0).due("write(0, 0, NULL)", 1).due("write(0, 0, NULL)", NULL)
            .due("write(0, 0, 2) write(0, 0, -2)", INVALID);
        Run.withOld(due, 1).does("allocate(1)").due("write(0, 0, 1)", NULL)
            .due("write(1, 0, 0)", NULL);
    }

    private static void writeAnswers(Due due) {
        new Run(due, "allocate(2) allocate(0)").due("write(0, 1, 1)", NULL)
            .due("write(0, 1, 1)", 1).due("write(0, 1, 0)", 1).due("write(0, 1, NULL)", 0)
            .due("write(0, 1, 0)", NULL).due("write(0, 0, 0)", NULL);
        // Also the id of an object that the sweep has freed.
        Run.withOld(due, 0, 1).does("write(1, 0, 0) startMajor() stepMajor(2)")
            .due("exists(0)", 0).due("write(1, 0, NULL)", 0);
    }

    private static void writeIsInvalid(Due due) {
        Run run = new Run(due, "allocate(2) allocate(0) write(0, 0, 1)");
        run.due("write(2, 0, 0) write(-1, 0, 0) write(100, 0, 0) write(max, 0, 0) write(min, 0, 0)",
            INVALID);
        run.due("write(0, 2, 0) write(0, -1, 0) write(0, 4, 0) write(0, max, 0) write(0, min, 0)",
            INVALID);
        run.due("write(0, 0, 2) write(0, 0, -2) write(0, 0, 100) write(0, 0, max)"
            + " write(0, 0, min) write(1, 0, 0)", INVALID);
        run.errors(16, 0, 0).due("reference(0, 0)", 1).due("reference(0, 1)", NULL);
        new Run(due, "allocate(1) allocate(1) setRoot(0, 0) minorCollection()")
            .due("write(1, 0, 0) write(0, 0, 1)", INVALID);
        Run.sweeping(due).does("stepMajor(200)").due("write(1, 0, 0) write(0, 0, 1)", INVALID);
    }

    private static void writeIsRejected(Due due) {
        Run run = Run.sweeping(due).does("allocate(1)").due("colour(1)", WHITE);
        run.due("write(0, 0, 1) write(2, 0, 1) write(1, 0, 1)", REJECTED).errors(0, 3, 0)
            .due("reference(0, 0) reference(2, 0) reference(1, 0)", NULL);
        // A black, a young or an empty target is stored, also into a white object.
        run.due("write(0, 0, 0) write(2, 0, 0) write(1, 0, 0) write(1, 1, 2)", NULL)
            .due("write(1, 1, NULL)", 2).errors(0, 3, 0);
        // White is no reason in another phase.
        Run.withOld(due, 1, 0).does("startMajor()").due("colour(1)", WHITE)
            .due("write(0, 0, 1)", NULL);
        Run.withOld(due, 1, 0).due("write(0, 0, 1)", NULL);
        // Colours of a former cycle mean nothing for an object that is young.
        new Run(due, "reset(64, 128, 1) allocate(1) startMajor() stepMajor(1)")
            .due("write(0, 0, 0)", NULL);
    }

    // ---- promise 5

    private static void rootStores(Due due) {
        new Run(due, "allocate(0) allocate(0) setRoot(0, 1) setRoot(3, 0)").due("root(0)", 1)
            .due("root(3)", 0).due("root(1) root(2)", NULL).due("reachableCount()", 2);
    }

    private static void rootShades(Due due) {
        Run run = Run.withOld(due, 0, 0).does("startMajor()").due("greyCount()", 0);
        run.does("setRoot(0, 1)").due("colour(1)", GREY).due("colour(0)", WHITE)
            .due("greyCount()", 1);
        run.does("setRoot(1, 1) setRoot(2, NULL) allocate(0) setRoot(2, 2)").due("greyCount()", 1);
        Run.withOld(due, 0).does("setRoot(0, 0)").due("greyCount()", 0);
        Run.sweeping(due).does("setRoot(1, 0)").due("greyCount()", 0);
    }

    private static void rootIndexes(Due due) {
        new Run(due, "allocate(0)").due("setRoot(0, 0) setRoot(1, 0) setRoot(2, 0) setRoot(3, 0)",
            NULL).due("setRoot(4, 0) setRoot(-1, 0)", INVALID);
    }

    private static void rootTargets(Due due) {
        new Run(due, "allocate(0) allocate(0)").due("setRoot(0, 0)", NULL).due("setRoot(0, 1)", 0)
            .due("setRoot(0, NULL)", 1).due("setRoot(0, NULL)", NULL)
            .due("setRoot(0, 2) setRoot(0, -2)", INVALID);
        Run.withOld(due, 0).due("setRoot(0, 0)", NULL);
    }

    private static void rootAnswers(Due due) {
        new Run(due, "allocate(0) allocate(0)").due("setRoot(2, 1)", NULL).due("setRoot(2, 1)", 1)
            .due("setRoot(2, 0)", 1).due("setRoot(2, NULL)", 0).due("setRoot(2, 0)", NULL)
            .due("setRoot(1, 0)", NULL);
    }

    private static void rootIsInvalid(Due due) {
        Run run = new Run(due, "allocate(0) setRoot(1, 0)");
        run.due("setRoot(-1, 0) setRoot(4, 0) setRoot(max, 0) setRoot(min, NULL)", INVALID);
        run.due("setRoot(1, 1) setRoot(1, -2) setRoot(1, 100) setRoot(1, max) setRoot(1, min)",
            INVALID);
        run.errors(9, 0, 0).due("root(1)", 0);
        new Run(due, "allocate(0) minorCollection()").due("setRoot(0, 0)", INVALID);
        Run.sweeping(due).does("stepMajor(200)").due("setRoot(0, 1)", INVALID);
    }

    private static void rootIsRejected(Due due) {
        Run run = Run.sweeping(due).does("allocate(0)").due("colour(1)", WHITE);
        run.due("setRoot(0, 1) setRoot(3, 1)", REJECTED).errors(0, 2, 0).due("root(0)", 0)
            .due("root(3)", NULL);
        run.due("setRoot(3, 0)", NULL).due("setRoot(3, 2)", 0).due("setRoot(3, NULL)", 2);
        Run.withOld(due, 0).does("startMajor()").due("colour(0)", WHITE)
            .due("setRoot(0, 0)", NULL);
        Run.withOld(due, 0).due("setRoot(0, 0)", NULL);
        new Run(due, "reset(64, 128, 1) allocate(0) startMajor() stepMajor(1)")
            .due("setRoot(0, 0)", NULL);
    }
}
