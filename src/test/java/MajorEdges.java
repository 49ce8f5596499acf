/** The cases that MAJOR COLLECTION and the promises 7 and 8 name. */
final class MajorEdges {
    private static final int NULL = GenerationalHeap.NULL;
    private static final int INVALID = GenerationalHeap.INVALID;
    private static final int REJECTED = GenerationalHeap.REJECTED;
    private static final int IDLE = GenerationalHeap.IDLE;
    private static final int MARKING = GenerationalHeap.MARKING;
    private static final int SWEEPING = GenerationalHeap.SWEEPING;
    private static final int WHITE = GenerationalHeap.WHITE;
    private static final int GREY = GenerationalHeap.GREY;
    private static final int BLACK = GenerationalHeap.BLACK;

    private MajorEdges() {
    }

    static void tests(Edges edges) {
        marking(edges.in("MAJOR COLLECTION"));
        units(edges);
        edges.in("7")
            .of("Starts a major collection.", MajorEdges::starts)
            .of("The phase becomes MARKING.", MajorEdges::phaseBecomesMarking)
            .of("Returns the number of grey objects after the root scan", MajorEdges::answersGreys)
            .of("REJECTED if the phase is not IDLE.", MajorEdges::startIsRejected);
        edges.in("8")
            .of("Performs a step of the major collection.", MajorEdges::performsAStep)
            .of("- `budget`: number of units, 1 to 200", MajorEdges::budgets)
            .of("Returns the number of objects freed by this step", MajorEdges::answersTheFreed)
            .of("INVALID if budget is out of range", MajorEdges::wrongBudgets)
            .of("REJECTED if the phase is IDLE.", MajorEdges::stepIsRejected);
    }

    private static void marking(Edges edges) {
        edges.of("A major collection is a cycle with the phases MARKING and SWEEPING",
                MajorEdges::bothPhases)
            .of("between cycles the phase is IDLE.", MajorEdges::idleBetweenCycles)
            .of("During a cycle each old object has a colour: WHITE, GREY or BLACK.",
                MajorEdges::coloursDuringACycle)
            .of("Grey objects are kept in a queue in the order in which they became grey.",
                MajorEdges::queueOrder)
            .of("\"Shading\" a reference means: if it refers to an old object that is white, that"
                + " object becomes grey and is appended to the queue", MajorEdges::whiteBecomesGrey)
            .of("otherwise nothing happens.", MajorEdges::othersAreNotShaded)
            .of("Starting a cycle makes every old object white, empties the queue, and then"
                + " performs a root scan.", MajorEdges::startingACycle)
            .of("A root scan shades the roots by rising index and then the fields of each young"
                + " object, in nursery order and by rising field index.", MajorEdges::rootScan)
            .of("During MARKING every reference that is stored into a field or a root is shaded"
                + " when it is stored.", MajorEdges::storesAreShaded)
            .of("An object that is promoted during MARKING becomes grey and is appended to the"
                + " queue, in the order of promotion.", MajorEdges::promotedWhileMarking)
            .of("An object that is promoted during SWEEPING becomes black.",
                MajorEdges::promotedWhileSweeping);
    }

    private static void units(Edges edges) {
        edges.of("A step has a budget of units.", MajorEdges::aUnitEach)
            .of("Units are performed until the budget is used up or the phase is IDLE.",
                MajorEdges::untilBudgetOrIdle)
            .of("MARKING with a non-empty queue: the first object is removed from the queue, its"
                + " fields are shaded by rising index, and it becomes black.", MajorEdges::markUnit)
            .of("MARKING with an empty queue: a root scan is performed.", MajorEdges::scanUnit)
            .of("If the queue is still empty afterwards, the phase becomes SWEEPING, and the sweep"
                + " list becomes the list of all old objects by rising id.", MajorEdges::sweepList)
            .of("SWEEPING with a non-empty sweep list: the first object is removed from the sweep"
                + " list.", MajorEdges::sweepUnit)
            .of("If it is white, it is freed: it leaves the old generation and the remembered"
                + " set.", MajorEdges::whiteIsFreed)
            .of("Freeing an object does not change the fields of other objects: a field of a white"
                + " object that has not been swept yet may hold the id of an object that was"
                + " freed.", MajorEdges::freedIdsStay)
            .of("SWEEPING with an empty sweep list: the phase becomes IDLE and the counter of major"
                + " collections grows by 1.", MajorEdges::lastUnit);
    }

    /** The objects become black in this order, one by each unit. */
    private static void marksInOrder(Run run, int... order) {
        for (int id : order) {
            run.due("colour(" + id + ")", GREY).does("stepMajor(1)")
                .due("colour(" + id + ")", BLACK);
        }
        run.due("greyCount()", 0).due("phase()", MARKING);
    }

    private static void bothPhases(Due due) {
        new Run(due, "startMajor()").due("phase()", MARKING)
            .does("stepMajor(1)").due("phase()", SWEEPING).does("stepMajor(1)").due("phase()", IDLE);
        Run one = Run.withOld(due, 0).does("setRoot(0, 0) startMajor()").due("phase()", MARKING);
        one.does("stepMajor(1)").due("phase()", MARKING).does("stepMajor(1)")
            .due("phase()", SWEEPING).does("stepMajor(1)").due("phase()", SWEEPING)
            .does("stepMajor(1)").due("phase()", IDLE);
    }

    private static void idleBetweenCycles(Due due) {
        Run run = new Run(due).due("phase()", IDLE);
        for (int cycle = 1; cycle <= 3; cycle++) {
            run.does("startMajor() stepMajor(200)").due("phase()", IDLE).due("majorCount()", cycle);
        }
        run.does("allocate(0) setRoot(0, 0) minorCollection()").due("phase()", IDLE);
    }

    private static void coloursDuringACycle(Due due) {
        Run run = Run.withOld(due, 0, 0, 0).does("setRoot(0, 0) setRoot(1, 1) startMajor()");
        run.does("stepMajor(1)").due("colour(0)", BLACK).due("colour(1)", GREY)
            .due("colour(2)", WHITE);
        run.does("stepMajor(2)").due("phase()", SWEEPING).due("colour(0) colour(1)", BLACK)
            .due("colour(2)", WHITE);
        run.does("stepMajor(200)").due("colour(0)", REJECTED).due("colour(2)", INVALID);
        due.is("WHITE", WHITE, 0);
        due.is("GREY", GREY, 1);
        due.is("BLACK", BLACK, 2);
    }

    private static void queueOrder(Due due) {
        Run run = Run.withOld(due, 0, 0, 2, 0, 0).does("write(2, 0, 4) write(2, 1, 0)");
        run.does("setRoot(0, 2) startMajor() setRoot(1, 3) setRoot(2, 1)").due("greyCount()", 3);
        marksInOrder(run, 2, 3, 1, 4, 0);
    }

    private static void whiteBecomesGrey(Due due) {
        Run run = Run.withOld(due, 0, 0).does("startMajor()").due("colour(0)", WHITE)
            .due("greyCount()", 0);
        run.does("setRoot(0, 1)").due("colour(1)", GREY).due("greyCount()", 1);
        run.does("setRoot(0, 0)").due("colour(0)", GREY).due("greyCount()", 2);
        marksInOrder(run, 1, 0);
    }

    private static void othersAreNotShaded(Due due) {
        Run run = Run.withOld(due, 0, 0, 0).does("setRoot(0, 0) setRoot(1, 1) startMajor()");
        run.does("stepMajor(1) allocate(1)").due("colour(0)", BLACK).due("greyCount()", 1);
        run.does("setRoot(2, 0)").due("colour(0)", BLACK).due("greyCount()", 1);
        run.does("setRoot(2, 1)").due("colour(1)", GREY).due("greyCount()", 1);
        run.does("setRoot(2, 3) write(3, 0, 3) setRoot(2, NULL) write(3, 0, NULL)")
            .due("greyCount()", 1).due("colour(3)", REJECTED).due("colour(2)", WHITE);
        marksInOrder(run, 1);
        run.does("setRoot(2, 1)").due("colour(1)", BLACK).due("greyCount()", 0);
    }

    private static void startingACycle(Due due) {
        Run again = Run.withOld(due, 0, 0).does("setRoot(0, 0) setRoot(1, 1) startMajor()")
            .does("stepMajor(200) setRoot(0, NULL)");
        again.due("startMajor()", 1).due("colour(0)", WHITE).due("colour(1)", GREY);
        // Promoted between cycles, or black from a sweep: white all the same.
        Run promoted = new Run(due, "reset(64, 128, 1) startMajor() stepMajor(1) allocate(0)")
            .does("setRoot(0, 0) minorCollection()").due("colour(0)", BLACK);
        promoted.does("setRoot(0, NULL) stepMajor(200)").due("startMajor()", 0)
            .due("colour(0)", WHITE);
        Run left = Run.withOld(due, 0, 0).does("setRoot(0, 0) setRoot(1, 1)");
        left.due("startMajor()", 2).does("reset(64, 128, 1)").due("startMajor()", 0)
            .due("greyCount()", 0);
        new Run(due).due("startMajor()", 0).due("greyCount()", 0);
    }

    private static void rootScan(Due due) {
        Run run = Run.withOld(due, 0, 0, 0, 0, 0, 0, 0, 0).does("allocate(2) allocate(2)");
        run.does("write(9, 0, 0) write(9, 1, 5) write(8, 1, 7) write(8, 0, 1)");
        run.does("setRoot(3, 2) setRoot(0, 6) setRoot(2, 4) setRoot(1, 8)");
        run.due("startMajor()", 7).due("colour(3)", WHITE);
        marksInOrder(run, 6, 4, 2, 1, 7, 0, 5);
        // The nursery's order, when it isn't that of the ids.
        Run turned = new Run(due, "reset(64, 128, 2) allocate(0) allocate(0) setRoot(0, 0)")
            .does("setRoot(1, 1)").many(2, "minorCollection()")
            .does("allocate(1) allocate(1) setRoot(0, 3) setRoot(1, 2) minorCollection()");
        turned.nursery("3 2").does("write(2, 0, 0) write(3, 0, 1)").due("startMajor()", 2);
        marksInOrder(turned, 1, 0);
        // Neither roots nor young objects.
        Run.withOld(due, 1).does("write(0, 0, 0)").due("startMajor()", 0).due("colour(0)", WHITE);
    }

    private static void storesAreShaded(Due due) {
        Run run = Run.withOld(due, 2, 0, 0, 0, 0).does("write(0, 1, 4) allocate(1) startMajor()");
        run.due("greyCount()", 0).does("write(5, 0, 1)").due("colour(1)", GREY);
        run.does("write(0, 0, 2)").due("colour(2)", GREY).does("setRoot(3, 3)")
            .due("colour(3)", GREY).due("colour(4) colour(0)", WHITE).due("greyCount()", 3);
        // Written over at once, it stays grey.
        run.does("write(5, 0, NULL) setRoot(3, NULL)").due("colour(1) colour(3)", GREY);
        run.does("stepMajor(3)").due("greyCount()", 0).does("write(0, 0, 4)")
            .due("colour(4)", GREY).due("greyCount()", 1);
        Run idle = Run.withOld(due, 0).does("setRoot(0, 0) setRoot(0, NULL)")
            .due("greyCount()", 0).due("startMajor()", 0).due("colour(0)", WHITE);
        idle.due("setRoot(4, 0)", INVALID).due("colour(0)", WHITE).due("greyCount()", 0);
        Run.sweeping(due).does("setRoot(1, 0) write(0, 0, 0)").due("greyCount()", 0)
            .due("colour(0)", BLACK);
    }

    private static void promotedWhileMarking(Due due) {
        Run run = Run.withOld(due, 0).does("setRoot(0, 0) startMajor() allocate(0) allocate(1)")
            .does("allocate(0) write(2, 0, 3) setRoot(1, 2) setRoot(2, 1)").due("greyCount()", 1);
        run.does("minorCollection()").due("greyCount()", 4).due("colour(1) colour(2) colour(3)",
            GREY);
        marksInOrder(run, 0, 2, 1, 3);
        // Into an empty queue, and not when there is no room for it.
        new Run(due, "reset(64, 128, 1) startMajor() allocate(0) setRoot(0, 0) minorCollection()")
            .due("greyCount()", 1).due("colour(0)", GREY);
        Run full = new Run(due, "reset(64, 16, 1) startMajor()").many(4, "allocate(4)");
        full.does("setRoot(0, 0) setRoot(1, 1) setRoot(2, 2) setRoot(3, 3) minorCollection()")
            .due("greyCount()", 3).due("colour(3)", REJECTED);
    }

    private static void promotedWhileSweeping(Due due) {
        Run run = Run.sweeping(due).does("allocate(0) setRoot(1, 2) minorCollection()");
        run.due("colour(2)", BLACK).due("greyCount()", 0).due("setRoot(2, 2)", NULL);
        run.due("stepMajor(200)", 1).due("exists(2)", 1);
        // Behind the last of the sweep list, too.
        Run last = Run.sweeping(due).does("stepMajor(2) allocate(0) setRoot(1, 2)")
            .does("minorCollection()").due("colour(2)", BLACK);
        last.due("stepMajor(1)", 0).due("phase()", IDLE).due("exists(2)", 1);
    }

    // ---- units

    private static void aUnitEach(Due due) {
        // Two marks, a scan, three sweeps and the end: seven units.
        for (int budget = 1; budget <= 8; budget++) {
            Run run = Run.withOld(due, 1, 0, 0).does("write(0, 0, 1) setRoot(0, 0) startMajor()");
            run.does("stepMajor(" + budget + ")");
            run.due("phase()", budget < 3 ? MARKING : budget < 7 ? SWEEPING : IDLE)
                .due("oldCount()", budget < 6 ? 3 : 2).due("majorCount()", budget < 7 ? 0 : 1);
        }
    }

    private static void untilBudgetOrIdle(Due due) {
        Run run = Run.withOld(due, 0, 0).does("startMajor()");
        run.due("stepMajor(2)", 1).due("phase()", SWEEPING).due("exists(1)", 1);
        run.due("stepMajor(1)", 1).due("phase()", SWEEPING).due("majorCount()", 0);
        run.due("stepMajor(200)", 0).due("phase()", IDLE).due("majorCount()", 1);
        // No second cycle begins with what is left of a budget.
        new Run(due, "startMajor() stepMajor(200)").due("phase()", IDLE).due("majorCount()", 1);
        Run exact = Run.withOld(due, 0).does("startMajor()");
        exact.due("stepMajor(3)", 1).due("phase()", IDLE).due("majorCount()", 1);
        Run dear = longestCycle(due).due("stepMajor(129)", 0).due("phase()", SWEEPING);
        dear.due("stepMajor(1)", 0).due("phase()", IDLE).due("oldCount()", 64);
    }

    /** A chain that fills the old generation: 64 marks, a scan, 64 sweeps and the end. */
    private static Run longestCycle(Due due) {
        Run run = new Run(due, "reset(64, 128, 1)");
        for (int id = 0; id < 64; id++) {
            run.does("allocate(1) write(" + id + ", 0, " + (id - 1) + ") setRoot(0, " + id + ")")
                .does("minorCollection()");
        }
        return run.due("oldWords()", 128).does("startMajor()");
    }

    private static void markUnit(Due due) {
        Run run = Run.withOld(due, 4, 1, 0, 0).does("write(0, 3, 1) write(0, 1, 3) write(0, 0, 0)");
        run.does("write(1, 0, 2) setRoot(0, 0)").due("startMajor()", 1);
        run.does("stepMajor(1)").due("colour(0)", BLACK).due("colour(3) colour(1)", GREY)
            .due("colour(2)", WHITE).due("greyCount()", 2);
        marksInOrder(run, 3, 1, 2);
        // An object without fields leaves the queue empty; the phase stays.
        Run.withOld(due, 0).does("setRoot(0, 0) startMajor() stepMajor(1)")
            .due("greyCount()", 0).due("colour(0)", BLACK).due("phase()", MARKING);
    }

    private static void scanUnit(Due due) {
        // The scan is a unit of its own, also when there is nothing to scan.
        new Run(due, "startMajor()").due("phase()", MARKING).does("stepMajor(1)")
            .due("phase()", SWEEPING);
        Run run = Run.withOld(due, 0, 0).does("setRoot(0, 0) startMajor() stepMajor(1)");
        run.due("greyCount()", 0).due("phase()", MARKING);
        run.does("setRoot(1, 1)").due("greyCount()", 1).does("stepMajor(1)")
            .due("phase()", MARKING).does("stepMajor(1)").due("phase()", SWEEPING);
        run.due("colour(0) colour(1)", BLACK).due("stepMajor(200)", 0);
    }

    private static void sweepList(Due due) {
        // Promoted against the order of their ids.
        Run run = new Run(due, "reset(64, 128, 1) allocate(0) allocate(0) allocate(0) allocate(0)")
            .does("setRoot(0, 3) setRoot(1, 2) setRoot(2, 1) minorCollection()")
            .does("setRoot(0, NULL) setRoot(1, NULL) setRoot(2, NULL) startMajor() stepMajor(1)");
        run.due("phase()", SWEEPING);
        for (int id = 1; id <= 3; id++) {
            run.due("exists(" + id + ")", 1).due("stepMajor(1)", 1).due("exists(" + id + ")", 0);
        }
        run.due("phase()", SWEEPING).due("stepMajor(1)", 0).due("phase()", IDLE);
        // An old generation without objects, and a young object that isn't in the list.
        new Run(due, "allocate(0) startMajor() stepMajor(1)").due("stepMajor(1)", 0)
            .due("phase()", IDLE).due("exists(0)", 1);
        // All objects, the black ones too, have a place in the list.
        Run black = Run.sweeping(due).due("stepMajor(1)", 0).due("exists(1)", 1);
        black.due("stepMajor(1)", 1).due("phase()", SWEEPING);
    }

    private static void sweepUnit(Due due) {
        Run run = Run.withOld(due, 0, 0, 0).does("setRoot(0, 1) startMajor() stepMajor(2)");
        run.due("stepMajor(1)", 1).due("exists(0)", 0).due("exists(1) exists(2)", 1);
        run.due("stepMajor(1)", 0).due("exists(1) exists(2)", 1).due("colour(1)", BLACK);
        run.due("stepMajor(1)", 1).due("exists(2)", 0).due("phase()", SWEEPING);
        // An object promoted meanwhile doesn't come into the list.
        Run joined = Run.sweeping(due).does("allocate(0) setRoot(1, 2) minorCollection()");
        joined.does("stepMajor(2)").due("phase()", SWEEPING).does("stepMajor(1)")
            .due("phase()", IDLE);
    }

    private static void whiteIsFreed(Due due) {
        Run run = Run.withOld(due, 3, 1, 1).does("allocate(0) write(2, 0, 3) write(0, 2, 3)")
            .does("write(1, 0, 3) setRoot(0, 2) setRoot(1, 1) startMajor() stepMajor(3)");
        run.due("phase()", SWEEPING).remembered("2 0 1").due("oldWords()", 8).due("oldCount()", 3);
        run.due("stepMajor(1)", 1).remembered("2 1").due("oldWords()", 4).due("oldCount()", 2)
            .due("exists(0)", 0).due("exists(3)", 1);
        run.due("stepMajor(2)", 0).remembered("2 1").due("oldWords()", 4);
        // What only a freed object kept is freed by the next minor collection.
        Run kept = Run.withOld(due, 1).does("allocate(0) write(0, 0, 1) startMajor()")
            .does("stepMajor(200)").remembered("").due("exists(1)", 1);
        kept.due("minorCollection()", 1);
        // The room that it leaves is room for others.
        Run room = new Run(due, "reset(64, 16, 1)").many(4, "allocate(4)")
            .does("setRoot(0, 0) setRoot(1, 1) setRoot(2, 2) setRoot(3, 3) minorCollection()")
            .does("setRoot(0, NULL) startMajor() stepMajor(200) minorCollection()");
        room.due("isOld(3)", 1).due("oldWords()", 15);
    }

    private static void freedIdsStay(Due due) {
        Run run = Run.withOld(due, 0, 2).does("write(1, 0, 0) startMajor() stepMajor(2)");
        run.due("exists(0)", 0).due("exists(1)", 1).due("reference(1, 0)", 0)
            .due("reference(1, 1)", NULL);
        run.due("describe(1)", 18).output("#1 old age=1 [0,-]");
        run.due("write(1, 1, 0)", INVALID).due("minorCollection()", 0).due("reachableCount()", 0);
        run.due("write(1, 0, NULL)", 0).due("reference(1, 0)", NULL).due("stepMajor(1)", 1);
    }

    private static void lastUnit(Due due) {
        Run run = new Run(due, "startMajor() stepMajor(1)").due("phase()", SWEEPING)
            .due("majorCount()", 0);
        run.due("stepMajor(1)", 0).due("phase()", IDLE).due("majorCount()", 1);
        Run swept = Run.sweeping(due).does("stepMajor(2)").due("phase()", SWEEPING)
            .due("majorCount()", 0);
        swept.due("stepMajor(1)", 0).due("phase()", IDLE).due("majorCount()", 1);
    }

    // ---- promise 7

    private static void starts(Due due) {
        new Run(due).due("startMajor()", 0).due("phase()", MARKING).due("majorCount()", 0);
        Run.withOld(due, 0, 0).does("setRoot(0, 1)").due("startMajor()", 1)
            .due("colour(0)", WHITE).due("colour(1)", GREY).due("oldCount()", 2);
    }

    private static void phaseBecomesMarking(Due due) {
        new Run(due, "startMajor()").due("phase()", MARKING);
        new Run(due, "startMajor() stepMajor(2) startMajor()").due("phase()", MARKING);
    }

    private static void answersGreys(Due due) {
        new Run(due).due("startMajor()", 0);
        new Run(due, "allocate(1) setRoot(0, 0) write(0, 0, 0)").due("startMajor()", 0);
        Run.withOld(due, 0).due("startMajor()", 0);
        Run.withOld(due, 0).does("setRoot(0, 0) setRoot(1, 0) allocate(1) write(1, 0, 0)")
            .due("startMajor()", 1);
        Run many = new Run(due, "reset(64, 128, 1)");
        for (int id = 0; id < 12; id++) {
            many.does("allocate(0) setRoot(0, " + id + ") minorCollection()");
        }
        many.many(3, "allocate(4)");
        for (int id = 0; id < 12; id++) {
            many.does("write(" + (12 + id / 4) + ", " + id % 4 + ", " + id + ")");
        }
        many.due("startMajor()", 12).due("greyCount()", 12);
    }

    private static void startIsRejected(Due due) {
        Run run = new Run(due, "startMajor()").due("startMajor()", REJECTED).due("phase()", MARKING);
        run.does("stepMajor(1)").due("startMajor()", REJECTED).due("phase()", SWEEPING);
        run.errors(0, 2, 0).does("stepMajor(1)").due("startMajor()", 0).errors(0, 2, 0);
        Run grey = Run.withOld(due, 0).does("setRoot(0, 0) startMajor() stepMajor(1)");
        grey.due("startMajor()", REJECTED).due("colour(0)", BLACK).due("greyCount()", 0);
    }

    // ---- promise 8

    private static void performsAStep(Due due) {
        Run run = Run.withOld(due, 0).does("setRoot(0, 0) startMajor()");
        run.due("stepMajor(1)", 0).due("colour(0)", BLACK);
        run.due("stepMajor(1)", 0).due("phase()", SWEEPING);
        run.due("stepMajor(1)", 0).due("phase()", SWEEPING);
        run.due("stepMajor(1)", 0).due("phase()", IDLE);
    }

    private static void budgets(Due due) {
        new Run(due, "startMajor()").due("stepMajor(1)", 0).due("phase()", SWEEPING);
        new Run(due, "startMajor()").due("stepMajor(200)", 0).due("phase()", IDLE);
        longestCycle(due).due("stepMajor(200)", 0).due("phase()", IDLE).due("majorCount()", 1);
        longestCycle(due).does("stepMajor(1)").due("colour(63)", BLACK).due("colour(62)", GREY)
            .due("colour(61)", WHITE);
    }

    private static void answersTheFreed(Due due) {
        Run run = Run.withOld(due, 0, 0, 0, 0).does("setRoot(0, 1) startMajor()");
        run.due("stepMajor(2)", 0).due("stepMajor(1)", 1).due("stepMajor(1)", 0)
            .due("stepMajor(2)", 2).due("stepMajor(1)", 0);
        Run.withOld(due, 0, 0, 0).does("startMajor()").due("stepMajor(200)", 3);
        new Run(due, "startMajor()").due("stepMajor(200)", 0);
        // Young objects that nothing refers to aren't its business.
        Run.withOld(due, 0).does("allocate(0) startMajor()").due("stepMajor(200)", 1)
            .due("exists(1)", 1);
    }

    private static void wrongBudgets(Due due) {
        String wrong = "stepMajor(0) stepMajor(-1) stepMajor(201) stepMajor(max) stepMajor(min)";
        Run run = new Run(due).due(wrong, INVALID).errors(5, 0, 0);
        run.does("startMajor()").due(wrong, INVALID).due("phase()", MARKING).errors(10, 0, 0);
        run.does("stepMajor(1)").due(wrong, INVALID).due("phase()", SWEEPING).errors(15, 0, 0);
    }

    private static void stepIsRejected(Due due) {
        Run run = new Run(due).due("stepMajor(1) stepMajor(200)", REJECTED).errors(0, 2, 0);
        run.does("startMajor() stepMajor(2)").due("phase()", IDLE).due("stepMajor(1)", REJECTED)
            .due("majorCount()", 1).errors(0, 3, 0);
        run.does("startMajor() reset(8, 16, 1)").due("stepMajor(1)", REJECTED).errors(0, 4, 0);
    }
}
