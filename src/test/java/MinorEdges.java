/** The cases that MINOR COLLECTION and promise 6 name. */
final class MinorEdges {
    private static final int NULL = GenerationalHeap.NULL;

    private MinorEdges() {
    }

    static void tests(Edges edges) {
        tracing(edges.in("MINOR COLLECTION"));
        edges.of("The survivors are processed in list order.", MinorEdges::inListOrder)
            .of("The age of the survivor grows by 1.", MinorEdges::agesGrowByOne)
            .of("If its age is now at least the tenure threshold and the free space of the old"
                + " generation is at least its size, it becomes old.", MinorEdges::promotion)
            .of("If its age is at least the threshold but the old generation has too little free"
                + " space, it stays young and the counter of promotion failures grows by 1.",
                MinorEdges::failures)
            .of("Each young object that is not a survivor is freed.", MinorEdges::othersAreFreed)
            .of("The nursery becomes the list of the survivors that stayed young, in list order.",
                MinorEdges::nurseryOfSurvivors)
            .of("The new remembered set consists of the objects of the former set, in their order,"
                + " followed by the objects that were promoted in this collection, in list order",
                MinorEdges::formerThenPromoted)
            .of("of all these only those are kept that have at least one field with a reference to"
                + " a young object.", MinorEdges::oneYoungReferenceKeeps);
        edges.in("6")
            .of("Performs a minor collection.", MinorEdges::performs)
            .of("It is allowed in every phase of a major collection.", MinorEdges::inEveryPhase)
            .of("Returns the number of freed objects.", MinorEdges::answersTheFreed);
    }

    private static void tracing(Edges edges) {
        edges.of("First the roots are visited by rising index, then the fields of each remembered"
                + " object, in the order of the remembered set and by rising field index.",
                MinorEdges::rootsThenRemembered)
            .of("Each visited reference to a young object that is not yet in the list is appended.",
                MinorEdges::youngReferencesOnce)
            .of("Then the list itself is traversed from its first element on: the fields of each"
                + " survivor are visited by rising index in the same way, until the end of the list"
                + " is reached.", MinorEdges::untilTheEndOfTheList);
    }

    /** Objects 0 and 1 with two fields each are old, the others age up to 3. */
    private static Run oldPair(Due due) {
        return new Run(due, "reset(64, 128, 3) allocate(2) allocate(2) setRoot(0, 0) setRoot(1, 1)")
            .many(3, "minorCollection()").does("setRoot(0, NULL) setRoot(1, NULL)");
    }

    private static void rootsThenRemembered(Due due) {
        Run run = oldPair(due).many(7, "allocate(0)");
        run.does("write(1, 1, 2) write(1, 0, 3) write(0, 1, 4) write(0, 0, 5)").remembered("1 0");
        run.does("setRoot(3, 6) setRoot(0, 8) setRoot(2, 7)");
        run.due("minorCollection()", 0).nursery("8 7 6 3 2 5 4");
        oldPair(due).due("minorCollection()", 0).nursery("");
    }

    private static void youngReferencesOnce(Due due) {
        Run run = oldPair(due).does("allocate(2) allocate(2)");
        run.does("setRoot(0, 3) setRoot(1, 3) setRoot(2, 0) write(1, 0, 3) write(1, 1, 0)");
        run.does("write(3, 0, 3) write(3, 1, 2) write(2, 0, 3) write(2, 1, 2)");
        run.due("minorCollection()", 0).nursery("3 2").due("age(2) age(3)", 1);
        run.due("age(0) age(1)", 3).due("youngWords()", 6);
    }

    private static void untilTheEndOfTheList(Due due) {
        Run chain = new Run(due, "reset(64, 128, 5)").many(32, "allocate(1)");
        StringBuilder order = new StringBuilder("31");
        for (int id = 31; id > 0; id--) {
            chain.does("write(" + id + ", 0, " + (id - 1) + ")");
            order.append(' ').append(id - 1);
        }
        chain.does("setRoot(3, 31)").due("minorCollection()", 0).nursery(order.toString());
        Run wide = new Run(due, "reset(64, 128, 5)").many(8, "allocate(4)");
        wide.does("setRoot(0, 0) write(0, 3, 1) write(0, 0, 5) write(5, 1, 2) write(1, 0, 2)")
            .does("write(1, 1, 3) write(3, 2, 7) write(7, 3, 0)");
        wide.due("minorCollection()", 2).nursery("0 5 1 2 3 7");
        new Run(due, "allocate(0)").due("minorCollection()", 1).nursery("");
    }

    private static void inListOrder(Due due) {
        Run run = new Run(due, "reset(64, 16, 1)").many(4, "allocate(4)");
        run.does("setRoot(0, 3) setRoot(1, 2) setRoot(2, 1) setRoot(3, 0) minorCollection()");
        run.due("isOld(3) isOld(2) isOld(1)", 1).due("isOld(0)", 0);
        Run smaller = new Run(due, "reset(64, 16, 1)").many(4, "allocate(4)").does("allocate(0)");
        smaller.does("setRoot(0, 0) setRoot(1, 1) setRoot(2, 2) setRoot(3, 3) write(3, 0, 4)")
            .does("minorCollection()").due("isOld(3)", 0).due("isOld(4)", 1);
    }

    private static void agesGrowByOne(Due due) {
        Run run = new Run(due, "reset(8, 16, 5) allocate(1) setRoot(0, 0)").due("age(0)", 0);
        for (int age = 1; age <= 4; age++) {
            run.does("minorCollection()").due("age(0)", age);
        }
        run.does("allocate(0) write(0, 0, 1) minorCollection()").due("age(0)", 5).due("age(1)", 1);
        run.does("minorCollection()").due("age(0)", 5).due("age(1)", 2);
    }

    private static void promotion(Due due) {
        for (int tenure = 1; tenure <= 5; tenure++) {
            Run run = new Run(due, "reset(8, 16, " + tenure + ") allocate(0) setRoot(0, 0)");
            run.many(tenure - 1, "minorCollection()").due("isOld(0)", 0);
            run.does("minorCollection()").due("isOld(0)", 1).due("promotionFailures()", 0);
        }
        // 16 words take 15 and exactly 1, or 14 and exactly 2.
        Run exact = fullBut(due, 1).does("allocate(0) setRoot(3, 3) minorCollection()");
        exact.due("isOld(3)", 1).due("oldWords()", 16).due("promotionFailures()", 0);
        Run two = fullBut(due, 2).does("allocate(1) setRoot(3, 3) minorCollection()");
        two.due("isOld(3)", 1).due("oldWords()", 16).due("promotionFailures()", 0);
        // Past the threshold it is promoted as soon as there is room.
        Run late = fullBut(due, 1).does("allocate(4) setRoot(3, 3) minorCollection()");
        late.due("isOld(3)", 0).does("setRoot(0, NULL) startMajor() stepMajor(200)")
            .does("minorCollection()").due("isOld(3)", 1).due("age(3)", 2);
    }

    /** Tenure 1, with an old generation of 16 words that has so many left. */
    private static Run fullBut(Due due, int words) {
        return new Run(due, "reset(64, 16, 1) allocate(4) allocate(4) allocate(" + (5 - words) + ")"
            + " setRoot(0, 0) setRoot(1, 1) setRoot(2, 2) minorCollection()")
            .due("oldWords()", 16 - words);
    }

    private static void failures(Due due) {
        Run run = fullBut(due, 2).does("allocate(2) setRoot(3, 3)").due("promotionFailures()", 0);
        for (int k = 1; k <= 3; k++) {
            run.does("minorCollection()").due("promotionFailures()", k).due("isOld(3)", 0)
                .due("age(3)", k).due("oldWords()", 14).nursery("3");
        }
        Run full = fullBut(due, 1).does("allocate(0) setRoot(3, 3) minorCollection()")
            .due("oldWords()", 16);
        full.does("allocate(1) allocate(0) write(4, 0, 5) setRoot(3, 4) minorCollection()")
            .due("promotionFailures()", 2).nursery("4 5");
        // Below the threshold, lack of room is no failure.
        Run young = new Run(due, "reset(64, 16, 2)").many(3, "allocate(4)")
            .does("setRoot(0, 0) setRoot(1, 1) setRoot(2, 2)").many(2, "minorCollection()");
        young.due("oldWords()", 15).does("allocate(1) setRoot(3, 3) minorCollection()")
            .due("promotionFailures()", 0).does("minorCollection()").due("promotionFailures()", 1);
        // The first that finds no room doesn't keep others from what there is.
        Run behind = fullBut(due, 1).does("allocate(1) allocate(0) write(3, 0, 4) setRoot(3, 3)")
            .does("minorCollection()").due("promotionFailures()", 1);
        behind.due("isOld(3)", 0).due("isOld(4)", 1).due("oldWords()", 16);
    }

    private static void othersAreFreed(Due due) {
        new Run(due).due("minorCollection()", 0);
        Run run = new Run(due, "allocate(1) allocate(1) allocate(1) allocate(0)");
        run.does("write(0, 0, 1) write(1, 0, 0) write(2, 0, 3) setRoot(0, 3)");
        run.due("minorCollection()", 3).due("exists(0) exists(1) exists(2)", 0)
            .due("exists(3)", 1).due("youngWords()", 1);
        new Run(due, "reset(64, 128, 1)").many(64, "allocate(0)").due("minorCollection()", 64)
            .due("youngCount() youngWords()", 0).due("exists(0) exists(63)", 0);
        Run.withOld(due, 0).due("reachableCount()", 0).due("minorCollection()", 0)
            .due("exists(0)", 1);
    }

    private static void nurseryOfSurvivors(Due due) {
        new Run(due, "allocate(0) minorCollection()").nursery("").due("youngCount()", 0);
        Run all = new Run(due, "reset(64, 128, 1) allocate(0) setRoot(0, 0) minorCollection()");
        all.nursery("").due("oldCount()", 1);
        // Object 0 ages before the others, and is promoted from among them.
        Run some = new Run(due, "reset(64, 128, 2) allocate(0) setRoot(1, 0) minorCollection()");
        some.does("allocate(0) allocate(0) allocate(0) setRoot(0, 3) setRoot(2, 1)");
        some.nursery("0 1 2 3").does("minorCollection()").nursery("3 1").due("isOld(0)", 1);
        fullBut(due, 1).does("allocate(1) allocate(0) write(3, 0, 4) setRoot(3, 3)")
            .does("minorCollection()").nursery("3").due("isOld(4)", 1);
    }

    private static void formerThenPromoted(Due due) {
        Run run = new Run(due, "reset(64, 128, 2) allocate(1) allocate(1) setRoot(0, 0)")
            .does("setRoot(1, 1)").many(2, "minorCollection()");
        run.does("allocate(1) allocate(1) setRoot(2, 3) setRoot(3, 2) minorCollection()");
        run.due("oldCount()", 2).does("allocate(0) write(1, 0, 4) write(0, 0, 4)")
            .does("write(2, 0, 4) write(3, 0, 4)").remembered("1 0");
        run.does("minorCollection()").due("oldCount()", 4).remembered("1 0 3 2");
        run.does("minorCollection()").due("oldCount()", 5).remembered("");
        new Run(due, "minorCollection()").remembered("");
    }

    private static void oneYoungReferenceKeeps(Due due) {
        for (int field = 0; field < 4; field++) {
            Run former = new Run(due, "reset(64, 128, 2) allocate(4) setRoot(0, 0)")
                .many(2, "minorCollection()");
            former.does("allocate(0) write(0, " + field + ", 1) minorCollection()").remembered("0");
            former.does("minorCollection()").remembered("").due("isOld(1)", 1);
            Run promoted = new Run(due, "reset(64, 128, 2) allocate(4) setRoot(0, 0)")
                .does("minorCollection() allocate(0) write(0, " + field + ", 1) minorCollection()");
            promoted.due("isOld(0)", 1).remembered("0");
        }
        Run none = oldPair(due).does("allocate(0) setRoot(0, 2) write(0, 0, 2) write(1, 0, 2)");
        none.does("write(0, 0, NULL) write(1, 0, 0)").remembered("0 1");
        none.does("minorCollection()").remembered("");
        // An id that the sweep has freed is no young object.
        Run freed = Run.withOld(due, 0, 2).does("write(1, 0, 0) allocate(0) write(1, 1, 2)");
        freed.does("startMajor() stepMajor(2)").due("exists(0)", 0).remembered("1");
        freed.does("write(1, 1, NULL) minorCollection()").remembered("");
    }

    // ---- promise 6

    private static void performs(Due due) {
        Run run = Run.withOld(due, 1).does("allocate(1) allocate(1) allocate(0) write(0, 0, 1)");
        run.does("write(1, 0, 2)").due("minorCollection()", 1).due("isOld(1) isOld(2)", 1)
            .due("exists(3)", 0).nursery("").remembered("");
        new Run(due).due("minorCollection() minorCollection()", 0);
    }

    private static void inEveryPhase(Due due) {
        Run run = new Run(due, "allocate(0)").due("phase()", GenerationalHeap.IDLE)
            .due("minorCollection()", 1);
        run.does("startMajor() allocate(0)").due("phase()", GenerationalHeap.MARKING)
            .due("minorCollection()", 1).due("phase()", GenerationalHeap.MARKING);
        run.does("stepMajor(1) allocate(0)").due("phase()", GenerationalHeap.SWEEPING)
            .due("minorCollection()", 1).due("phase()", GenerationalHeap.SWEEPING);
        run.errors(0, 0, 0);
    }

    private static void answersTheFreed(Due due) {
        new Run(due).due("minorCollection()", 0);
        new Run(due, "allocate(0) setRoot(0, 0)").due("minorCollection()", 0);
        new Run(due).many(24, "allocate(0)").due("minorCollection()", 24)
            .due("minorCollection()", 0);
        new Run(due, "reset(64, 128, 1)").many(64, "allocate(0)").due("minorCollection()", 64);
        // A promoted object leaves the nursery, but isn't freed.
        new Run(due, "reset(8, 16, 1) allocate(0) allocate(0) setRoot(0, 1)")
            .due("minorCollection()", 1).due("isOld(1)", 1).due("root(1)", NULL);
    }
}
