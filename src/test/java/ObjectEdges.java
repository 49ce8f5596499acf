/** The cases that 'What it is', OBJECTS, REMEMBERED SET and the constants name. */
final class ObjectEdges {
    private static final int NULL = GenerationalHeap.NULL;
    private static final int INVALID = GenerationalHeap.INVALID;
    private static final int REJECTED = GenerationalHeap.REJECTED;
    private static final int FULL = GenerationalHeap.FULL;
    private static final int NONE = GenerationalHeap.NONE;

    private ObjectEdges() {
    }

    static void tests(Edges edges) {
        edges.in("What it is")
            .of("An object is used for at most 512 calls after it has been made",
                ObjectEdges::theLastCallIsAnswered);
        edges.in("OBJECTS")
            .of("Objects have ids 0, 1, 2, ... in the order of allocation", ObjectEdges::idsRise)
            .of("an id is never used again.", ObjectEdges::idsAreUsedOnce)
            .of("At most 100 objects can be allocated before the heap is reset.",
                ObjectEdges::hundredObjects)
            .of("An object has 0 to 4 reference fields, indexed from 0.",
                ObjectEdges::noneToFourFields)
            .of("Each field holds a reference to an object or NULL (-1).",
                ObjectEdges::whatAFieldHolds)
            .of("The size of an object is 1 + number of fields, in words.", ObjectEdges::sizes)
            .of("An object exists from its allocation until a collector frees it.",
                ObjectEdges::fromAllocationUntilFreed)
            .of("A caller may name any object that exists, also one that is not reachable.",
                ObjectEdges::unreachableObjectsAreNamed)
            .of("There are four roots, indexed 0 to 3.", ObjectEdges::fourRoots)
            .of("Each root holds a reference or NULL.", ObjectEdges::whatARootHolds)
            .of("Each object is young or old.", ObjectEdges::youngOrOld)
            .of("It is allocated young with age 0.", ObjectEdges::allocatedYoung)
            .of("The nursery is the list of all young objects", ObjectEdges::allYoungObjects)
            .of("a new object is appended to it.", ObjectEdges::newObjectsComeLast)
            .of("The nursery capacity limits the total size of the young objects, the old capacity"
                + " limits the total size of the old objects.", ObjectEdges::capacities);
        edges.in("REMEMBERED SET")
            .of("The remembered set is a list of old objects without duplicates.",
                ObjectEdges::oldObjectsOnce)
            .of("When a reference to a young object is stored into a field of an old object, the"
                + " old object is appended to the list unless it is already there.",
                ObjectEdges::youngIntoOld)
            .of("Storing other references never removes an object from the list.",
                ObjectEdges::otherStoresRemoveNothing);
        edges.in("SCRIPTS")
            .of("- `NULL = -1`: The empty reference.", ObjectEdges::constantNull)
            .of("- `INVALID = -2`: An argument is out of range or names an object that does not"
                + " exist.", ObjectEdges::constantInvalid)
            .of("- `REJECTED = -3`: The state does not allow the call.",
                ObjectEdges::constantRejected)
            .of("- `FULL = -4`: A capacity would be exceeded.", ObjectEdges::constantFull)
            .of("- `NONE = -5`: Returned where there is no such value.", ObjectEdges::constantNone);
    }

    private static void theLastCallIsAnswered(Due due) {
        Run run = new Run(due);
        for (int k = 0; k < 511; k++) {
            run.due("root(-1)", INVALID);
        }
        run.due("errorCount(0)", 511);
        Run busy = new Run(due).type("minor;".repeat(25));
        for (int k = 151; k < 511; k++) {
            busy.due("runScript()", 25);
        }
        busy.due("minorCollection()", 0);
    }

    // ---- OBJECTS

    private static void idsRise(Due due) {
        Run run = new Run(due, "reset(64, 128, 1)");
        for (int id = 0; id < 64; id++) {
            run.due("allocate(0)", id);
        }
        run.does("minorCollection()");
        for (int id = 64; id < 100; id++) {
            run.due("allocate(0)", id).due("exists(" + id + ")", 1);
        }
    }

    private static void idsAreUsedOnce(Due due) {
        new Run(due, "allocate(0) allocate(0) minorCollection()")
            .due("allocate(0)", 2).does("minorCollection()")
            .due("allocate(0)", 3).due("exists(0) exists(1) exists(2)", 0);
        Run.withOld(due, 0, 0).does("startMajor()")
            .due("stepMajor(200)", 2).due("allocate(0)", 2).due("exists(0) exists(1)", 0);
        new Run(due, "reset(8, 16, 1) allocate(4) allocate(2)")
            .due("allocate(0)", FULL).due("allocate(5)", INVALID).does("minorCollection()")
            .due("allocate(0)", 2);
    }

    private static void hundredObjects(Due due) {
        Run run = new Run(due, "reset(64, 128, 1)")
            .many(64, "allocate(0)").does("minorCollection()").many(35, "allocate(0)");
        run.due("allocate(0)", 99).due("exists(99)", 1)
            .due("allocate(0)", FULL).due("exists(100)", 0);
        run.due("minorCollection()", 36).due("youngWords()", 0).due("allocate(0)", FULL);
        run.does("reset(8, 16, 1)").due("allocate(0)", 0);
        Run mixed = Run.withOld(due, 0, 0, 0).does("startMajor() stepMajor(200)");
        mixed.many(60, "allocate(0)").does("minorCollection()").many(37, "allocate(0)")
            .due("allocate(0)", FULL).due("exists(99)", 1);
    }

    private static void noneToFourFields(Due due) {
        Run run = new Run(due);
        for (int fields = 0; fields <= 4; fields++) {
            run.due("allocate(" + fields + ")", fields);
            for (int field = 0; field < fields; field++) {
                run.due("reference(" + fields + ", " + field + ")", NULL);
            }
            run.due("reference(" + fields + ", " + fields + ")", INVALID)
                .due("reference(" + fields + ", -1)", INVALID);
        }
        run.due("allocate(-1) allocate(5)", INVALID);
    }

    private static void whatAFieldHolds(Due due) {
        Run run = new Run(due, "reset(64, 128, 1) allocate(1) setRoot(0, 0)");
        run.many(62, "allocate(0)").does("minorCollection()").many(37, "allocate(0)");
        run.due("reference(0, 0)", NULL)
            .due("write(0, 0, 99)", NULL).due("reference(0, 0)", 99)
            .due("write(0, 0, 0)", 99).due("reference(0, 0)", 0)
            .due("write(0, 0, -1)", 0).due("reference(0, 0)", -1)
            .due("write(0, 0, -2) write(0, 0, 100)", INVALID).due("reference(0, 0)", -1);
    }

    private static void sizes(Due due) {
        for (int fields = 0; fields <= 4; fields++) {
            Run run = new Run(due, "reset(8, 16, 1)").due("youngWords() oldWords()", 0);
            run.does("allocate(" + fields + ") setRoot(0, 0)")
                .due("youngWords()", 1 + fields).due("oldWords()", 0);
            run.does("minorCollection()")
                .due("youngWords()", 0).due("oldWords()", 1 + fields);
        }
        new Run(due, "allocate(2)").due("youngWords()", 3).does("write(0, 0, 0) write(0, 1, 0)")
            .due("youngWords()", 3);
    }

    private static void fromAllocationUntilFreed(Due due) {
        Run run = new Run(due, "reset(64, 128, 1)")
            .due("exists(0)", 0).does("allocate(1)").due("exists(0)", 1);
        run.does("setRoot(0, 0) setRoot(0, NULL)").due("exists(0)", 1);
        run.does("startMajor() stepMajor(200)").due("exists(0)", 1);
        run.does("setRoot(0, 0) minorCollection() setRoot(0, NULL) minorCollection()")
            .due("exists(0)", 1);
        run.does("startMajor() stepMajor(1)").due("exists(0)", 1)
            .does("stepMajor(1)").due("exists(0)", 0);
        new Run(due, "allocate(0)").due("exists(0)", 1).does("minorCollection()")
            .due("exists(0)", 0);
    }

    private static void unreachableObjectsAreNamed(Due due) {
        Run young = new Run(due, "allocate(1) allocate(1)").due("reachableCount()", 0);
        young.due("write(0, 0, 1)", NULL).due("reference(0, 0)", 1).due("age(0)", 0)
            .due("isOld(1)", 0).due("describe(1)", "#1 young age=0 [-]".length())
            .due("setRoot(0, 0)", NULL).due("reachableCount()", 2);
        Run old = Run.withOld(due, 1, 1).due("reachableCount()", 0);
        old.due("write(0, 0, 1)", NULL).due("reference(0, 0)", 1).due("age(0)", 1)
            .due("isOld(1)", 1).due("describe(1)", "#1 old age=1 [-]".length())
            .due("setRoot(3, 0)", NULL).due("reachableCount()", 2);
        Run.sweeping(due).due("colour(1)", GenerationalHeap.WHITE)
            .due("write(1, 1, 0)", NULL).due("reference(1, 1)", 0);
    }

    private static void fourRoots(Due due) {
        Run run = new Run(due, "allocate(0)");
        for (int index = 0; index < 4; index++) {
            run.due("setRoot(" + index + ", 0)", NULL).due("root(" + index + ")", 0);
        }
        run.due("root(-1) root(4)", INVALID).due("setRoot(-1, 0) setRoot(4, 0)", INVALID);
        for (int index = 0; index < 4; index++) {
            Run alone = new Run(due, "allocate(0) allocate(0) setRoot(" + index + ", 1)");
            alone.due("reachableCount()", 1).due("minorCollection()", 1).due("exists(1)", 1);
        }
    }

    private static void whatARootHolds(Due due) {
        new Run(due, "allocate(0) allocate(0)")
            .due("root(0) root(1) root(2) root(3)", NULL)
            .due("setRoot(0, 0) setRoot(3, 1) setRoot(2, 1)", NULL)
            .due("root(0)", 0).due("root(1)", NULL).due("root(2) root(3)", 1)
            .due("setRoot(0, -1)", 0).due("root(0)", -1)
            .due("setRoot(3, -2) setRoot(3, 2)", INVALID).due("root(3)", 1);
        Run.withOld(due, 0).due("setRoot(3, 0)", NULL).due("root(3)", 0);
    }

    private static void youngOrOld(Due due) {
        Run run = Run.withOld(due, 0, 0).does("allocate(0)");
        run.due("isOld(0) isOld(1)", 1).due("isOld(2)", 0)
            .due("oldCount()", 2).due("youngCount()", 1).nursery("2");
        run.does("setRoot(0, 2) minorCollection()").due("isOld(2)", 1)
            .due("oldCount()", 3).due("youngCount()", 0);
        run.does("startMajor() stepMajor(200)").due("oldCount()", 1).due("youngCount()", 0)
            .due("isOld(0) isOld(1)", INVALID);
    }

    private static void allocatedYoung(Due due) {
        new Run(due, "reset(8, 16, 1) allocate(0)").due("isOld(0)", 0).due("age(0)", 0);
        Run.withOld(due, 0).does("minorCollection() allocate(0)")
            .due("isOld(1)", 0).due("age(1)", 0);
        // Where an object of the former heap was old, and aged, under the same id.
        Run.withOld(due, 2).does("reset(8, 16, 1) allocate(2)")
            .due("isOld(0)", 0).due("age(0)", 0);
    }

    private static void allYoungObjects(Due due) {
        Run run = new Run(due).nursery("").due("youngObject(0)", NONE);
        run.does("allocate(0) allocate(1) allocate(0) setRoot(0, 1)").nursery("0 1 2");
        run.does("minorCollection()").nursery("1");
        run.does("minorCollection()").nursery("").due("isOld(1)", 1);
    }

    private static void newObjectsComeLast(Due due) {
        Run run = new Run(due, "reset(64, 128, 5) allocate(0)").nursery("0");
        run.does("allocate(0) setRoot(0, 1) setRoot(1, 0)").nursery("0 1");
        run.does("minorCollection()").nursery("1 0");
        run.does("allocate(0)").nursery("1 0 2").does("allocate(4)").nursery("1 0 2 3");
        run.due("allocate(5)", INVALID).nursery("1 0 2 3");
    }

    private static void capacities(Due due) {
        new Run(due, "reset(8, 16, 1) allocate(4) allocate(1)").due("youngWords()", 7)
            .due("allocate(1)", FULL).due("allocate(0)", 2).due("youngWords()", 8)
            .due("allocate(0)", FULL);
        new Run(due, "reset(64, 128, 1)").many(12, "allocate(4)")
            .due("allocate(3)", 12).due("youngWords()", 64).due("allocate(0)", FULL);
        Run old = new Run(due, "reset(8, 16, 1)");
        for (int id = 0; id < 3; id++) {
            old.does("allocate(4) setRoot(" + id + ", " + id + ") minorCollection()");
        }
        old.due("oldWords()", 15).does("allocate(1) setRoot(3, 3) minorCollection()")
            .due("oldWords()", 15).due("isOld(3)", 0);
        old.does("allocate(0) setRoot(3, 4) minorCollection()")
            .due("oldWords()", 16).due("isOld(4)", 1);
        old.does("allocate(0) setRoot(3, 5) minorCollection()")
            .due("oldWords()", 16).due("isOld(5)", 0);
    }

    // ---- REMEMBERED SET

    private static void oldObjectsOnce(Due due) {
        Run run = Run.withOld(due, 2).remembered("").does("allocate(1) allocate(0)");
        run.does("write(1, 0, 2)").remembered("");
        run.does("write(0, 0, 1)").remembered("0").does("write(0, 1, 2)").remembered("0");
        run.does("write(0, 0, 1) write(0, 0, 2)").remembered("0");
    }

    private static void youngIntoOld(Due due) {
        Run run = Run.withOld(due, 1, 1, 1).does("allocate(1) allocate(1)");
        run.does("write(3, 0, 4) write(4, 0, 0) setRoot(0, 3)").remembered("");
        run.does("write(0, 0, 1) write(0, 0, 0) write(0, 0, NULL)").remembered("");
        run.does("write(2, 0, 3)").remembered("2").does("write(0, 0, 3)").remembered("2 0");
        run.does("write(2, 0, 4)").remembered("2 0").does("write(1, 0, 4)").remembered("2 0 1");
        Run white = Run.sweeping(due).does("allocate(0) write(1, 1, 2)").remembered("1");
        white.does("write(0, 1, 2)").remembered("1 0");
        Run.withOld(due, 1).does("allocate(0) startMajor() write(0, 0, 1)").remembered("0");
    }

    private static void otherStoresRemoveNothing(Due due) {
        Run run = Run.withOld(due, 2, 1).does("allocate(0) write(1, 0, 2) write(0, 1, 2)");
        run.remembered("1 0").does("write(1, 0, NULL)").remembered("1 0");
        run.does("write(0, 1, 1)").remembered("1 0").does("write(0, 0, NULL)").remembered("1 0");
        run.does("write(1, 0, 2)").remembered("1 0").due("write(0, 2, 1)", INVALID)
            .remembered("1 0");
    }

    // ---- the constants

    private static void constantNull(Due due) {
        due.is("NULL", GenerationalHeap.NULL, -1);
        new Run(due, "allocate(1)").due("reference(0, 0) root(0)", -1)
            .due("write(0, 0, -1) setRoot(0, -1)", -1);
    }

    private static void constantInvalid(Due due) {
        due.is("INVALID", GenerationalHeap.INVALID, -2);
        new Run(due).due("allocate(5) age(0)", -2).errors(2, 0, 0);
    }

    private static void constantRejected(Due due) {
        due.is("REJECTED", REJECTED, -3);
        new Run(due).due("stepMajor(1)", -3).errors(0, 1, 0);
    }

    private static void constantFull(Due due) {
        due.is("FULL", FULL, -4);
        new Run(due).many(24, "allocate(0)").due("allocate(0)", -4).errors(0, 0, 1);
    }

    private static void constantNone(Due due) {
        due.is("NONE", NONE, -5);
        new Run(due).due("youngObject(0) remembered(0) outputByte(0)", -5).errors(0, 0, 0);
    }
}
