/** The cases that the promises 9 to 26 name: what can be asked. */
final class QuestionEdges {
    private static final int NULL = GenerationalHeap.NULL;
    private static final int INVALID = GenerationalHeap.INVALID;
    private static final int REJECTED = GenerationalHeap.REJECTED;
    private static final int NONE = GenerationalHeap.NONE;
    private static final int IDLE = GenerationalHeap.IDLE;
    private static final int MARKING = GenerationalHeap.MARKING;
    private static final int SWEEPING = GenerationalHeap.SWEEPING;
    private static final int WHITE = GenerationalHeap.WHITE;
    private static final int GREY = GenerationalHeap.GREY;
    private static final int BLACK = GenerationalHeap.BLACK;
    private static final String[] NO_OBJECTS = {"-1", "-2", "3", "99", "100", "max", "min"};

    private QuestionEdges() {
    }

    static void tests(Edges edges) {
        objects(edges);
        fieldsAndRoots(edges);
        generations(edges);
        counters(edges);
    }

    private static void objects(Edges edges) {
        edges.in("9")
            .of("Tells whether an object exists.", QuestionEdges::existsOrNot)
            .of("- `object`: any number", QuestionEdges::anyNumber)
            .of("Returns 1 if object is the id of an object that exists, otherwise 0.",
                QuestionEdges::existsAnswers);
        edges.in("10")
            .of("Tells whether an object is old.", QuestionEdges::oldOrNot)
            .of("- `object`: id of an existing object", due -> takesExisting(due, "isOld", 0, 1))
            .of("Returns 1 if it is old, 0 if it is young", QuestionEdges::isOldAnswers)
            .of("INVALID if it does not exist.", due -> refusesOthers(due, "isOld"));
        edges.in("11")
            .of("Returns the age of an object, the number of minor collections that it survived"
                + " while it was young.", QuestionEdges::agesWhileYoung)
            .of("- `object`: id of an existing object", due -> takesExisting(due, "age", 0, 1))
            .of("Returns the age", QuestionEdges::ageAnswers)
            .of("INVALID if it does not exist.", due -> refusesOthers(due, "age"));
        edges.in("14")
            .of("Returns the colour of an old object during a major collection.",
                QuestionEdges::colourDuringACycle)
            .of("- `object`: id of an existing object", QuestionEdges::colourOfExisting)
            .of("Returns WHITE, GREY or BLACK", QuestionEdges::colourAnswers)
            .of("INVALID if the object does not exist", QuestionEdges::colourIsInvalid)
            .of("REJECTED if it is young or the phase is IDLE.", QuestionEdges::colourIsRejected);
        edges.in("15")
            .of("Counts the objects that are reachable from the roots through fields, young and"
                + " old.", QuestionEdges::reachableThroughFields)
            .of("Returns the number of reachable objects.", QuestionEdges::reachableAnswers);
    }

    private static void fieldsAndRoots(Edges edges) {
        edges.in("12")
            .of("Returns the reference in a field.", QuestionEdges::referenceInAField)
            .of("- `object`: id of an existing object", QuestionEdges::referenceOfExisting)
            .of("- `field`: index of a field of that object", QuestionEdges::referenceFields)
            .of("Returns the id, or NULL", QuestionEdges::referenceAnswers)
            .of("INVALID if the object does not exist or has no such field.",
                QuestionEdges::referenceIsInvalid);
        edges.in("13")
            .of("Returns the reference in a root.", QuestionEdges::referenceInARoot)
            .of("- `index`: 0 to 3", QuestionEdges::rootIndexes)
            .of("Returns the id, or NULL", QuestionEdges::rootAnswers)
            .of("INVALID if index is out of range.", QuestionEdges::rootIsInvalid);
    }

    private static void generations(Edges edges) {
        edges.in("16")
            .of("Returns the number of young objects.", QuestionEdges::youngObjects)
            .of("Returns the length of the nursery.", QuestionEdges::nurseryLength);
        edges.in("17")
            .of("Returns an element of the nursery.", QuestionEdges::nurseryElements)
            .of("- `index`: position, 0 or more", QuestionEdges::nurseryPositions)
            .of("Returns the id", QuestionEdges::nurseryIds)
            .of("NONE if index is not below youngCount()", QuestionEdges::behindTheNursery)
            .of("INVALID if index is negative.", due -> refusesNegative(due, "youngObject"));
        edges.in("18")
            .of("Returns the total size of the young objects.", QuestionEdges::youngSize)
            .of("Returns words.", QuestionEdges::youngSizeInWords);
        edges.in("19")
            .of("Returns the number of old objects.", QuestionEdges::oldObjects)
            .of("Returns the number.", QuestionEdges::oldCountAnswers);
        edges.in("20")
            .of("Returns the total size of the old objects.", QuestionEdges::oldSize)
            .of("Returns words.", QuestionEdges::oldSizeInWords);
        edges.in("21")
            .of("Returns the number of remembered objects.", QuestionEdges::rememberedObjects)
            .of("Returns the length of the remembered set.", QuestionEdges::rememberedLength);
        edges.in("22")
            .of("Returns an element of the remembered set.", QuestionEdges::rememberedElements)
            .of("- `index`: position, 0 or more", QuestionEdges::rememberedPositions)
            .of("Returns the id", QuestionEdges::rememberedIds)
            .of("NONE if index is not below rememberedCount()",
                QuestionEdges::behindTheRememberedSet)
            .of("INVALID if index is negative.", due -> refusesNegative(due, "remembered"));
    }

    private static void counters(Edges edges) {
        edges.in("23")
            .of("Returns the phase of the major collection.", QuestionEdges::phases)
            .of("Returns IDLE, MARKING or SWEEPING.", QuestionEdges::phaseAnswers);
        edges.in("24")
            .of("Returns the length of the grey queue.", QuestionEdges::greyQueueLength)
            .of("Returns the number of grey objects.", QuestionEdges::greyObjects);
        edges.in("25")
            .of("Returns the number of promotion failures since the last reset.",
                QuestionEdges::failuresSinceReset)
            .of("Returns the number.", QuestionEdges::failuresAnswer);
        edges.in("26")
            .of("Returns the number of completed major collections since the last reset.",
                QuestionEdges::majorsSinceReset)
            .of("Returns the number.", QuestionEdges::majorsAnswer);
    }

    /** The object 0 is freed, 1 old with two fields, 2 young with two fields; there is no 3. */
    private static Run freedOldYoung(Due due) {
        return new Run(due, "reset(64, 128, 1) allocate(2) allocate(2) setRoot(0, 1)")
            .does("minorCollection() allocate(2)")
            .due("exists(0)", 0).due("isOld(1)", 1).due("isOld(2)", 0);
    }

    private static void takesExisting(Due due, String question, int young, int old) {
        freedOldYoung(due).due(question + "(2)", young).due(question + "(1)", old)
            .errors(0, 0, 0);
        // Those that nothing reaches, and the utmost id.
        Run run = new Run(due, "reset(64, 128, 1)").many(50, "allocate(0)")
            .does("minorCollection()").many(50, "allocate(0)");
        run.due(question + "(50) " + question + "(99)", young).errors(0, 0, 0);
    }

    private static void refusesOthers(Due due, String question) {
        Run run = freedOldYoung(due);
        for (String object : NO_OBJECTS) {
            run.due(question + "(" + object + ")", INVALID);
        }
        run.errors(NO_OBJECTS.length, 0, 0).due(question + "(0)", INVALID);
        Run.withOld(due, 0).does("startMajor() stepMajor(200)").due(question + "(0)", INVALID);
        new Run(due, "allocate(0) reset(8, 16, 1)").due(question + "(0)", INVALID);
        new Run(due).due(question + "(0)", INVALID).errors(1, 0, 0);
    }

    private static void refusesNegative(Due due, String question) {
        Run.withOld(due, 1).does("allocate(0) write(0, 0, 1)").due(question + "(-1) " + question
            + "(-2) " + question + "(-100) " + question + "(min)", INVALID).errors(4, 0, 0);
        new Run(due).due(question + "(-1)", INVALID).errors(1, 0, 0);
    }

    // ---- promises 9 to 11

    private static void existsOrNot(Due due) {
        freedOldYoung(due).due("exists(0)", 0).due("exists(1) exists(2)", 1).due("exists(3)", 0);
        new Run(due, "allocate(0) reset(8, 16, 1)").due("exists(0)", 0);
    }

    private static void anyNumber(Due due) {
        Run run = freedOldYoung(due);
        for (String object : NO_OBJECTS) {
            run.due("exists(" + object + ")", 0);
        }
        run.errors(0, 0, 0);
    }

    private static void existsAnswers(Due due) {
        new Run(due).due("exists(0) exists(-1)", 0).does("allocate(0)").due("exists(0)", 1)
            .due("exists(1)", 0).does("minorCollection()").due("exists(0)", 0);
        Run.sweeping(due).due("exists(0) exists(1)", 1).does("stepMajor(2)").due("exists(0)", 1)
            .due("exists(1)", 0);
    }

    private static void oldOrNot(Due due) {
        Run run = new Run(due, "allocate(0) setRoot(0, 0)").due("isOld(0)", 0);
        run.does("minorCollection()").due("isOld(0)", 0).does("minorCollection()")
            .due("isOld(0)", 1);
    }

    private static void isOldAnswers(Due due) {
        freedOldYoung(due).due("isOld(1)", 1).due("isOld(2)", 0);
        // One that failed to be promoted is young, however old it may be.
        new Run(due, "reset(64, 16, 1)").many(4, "allocate(4)")
            .does("setRoot(0, 0) setRoot(1, 1) setRoot(2, 2) setRoot(3, 3) minorCollection()")
            .due("isOld(0) isOld(1) isOld(2)", 1).due("isOld(3)", 0);
    }

    private static void agesWhileYoung(Due due) {
        Run run = new Run(due, "allocate(0) setRoot(0, 0)").due("age(0)", 0);
        run.does("minorCollection()").due("age(0)", 1).does("minorCollection()").due("age(0)", 2);
        run.many(3, "minorCollection()").due("age(0)", 2).does("startMajor() stepMajor(200)")
            .due("age(0)", 2);
    }

    private static void ageAnswers(Due due) {
        // Without room in the old generation an age goes beyond every threshold.
        Run run = new Run(due, "reset(64, 16, 1)").many(4, "allocate(4)")
            .does("setRoot(0, 0) setRoot(1, 1) setRoot(2, 2) setRoot(3, 3)");
        run.many(100, "minorCollection()").due("age(0)", 1).due("age(3)", 100);
        run.does("allocate(0)").due("age(4)", 0);
    }

    // ---- promises 12 and 13

    private static void referenceInAField(Due due) {
        new Run(due, "allocate(2) allocate(0) write(0, 0, 0) write(0, 1, 1)")
            .due("reference(0, 0)", 0).due("reference(0, 1)", 1);
    }

    private static void referenceOfExisting(Due due) {
        freedOldYoung(due).due("reference(1, 0) reference(2, 0)", NULL).errors(0, 0, 0)
            .due("reference(0, 0) reference(3, 0)", INVALID);
        Run run = new Run(due, "reset(64, 128, 1)").many(50, "allocate(0)")
            .does("minorCollection()").many(49, "allocate(0)").does("allocate(4)");
        run.due("reference(99, 0) reference(99, 3)", NULL).due("reference(100, 0)", INVALID);
    }

    private static void referenceFields(Due due) {
        for (int fields = 0; fields <= 4; fields++) {
            Run run = new Run(due, "allocate(" + fields + ") allocate(4) write(1, 0, 1)");
            for (int field = 0; field < fields; field++) {
                run.due("reference(0, " + field + ")", NULL);
            }
            run.due("reference(0, " + fields + ") reference(0, -1)", INVALID).errors(2, 0, 0);
        }
    }

    private static void referenceAnswers(Due due) {
        new Run(due, "allocate(1)").due("reference(0, 0)", NULL).does("write(0, 0, 0)")
            .due("reference(0, 0)", 0).does("write(0, 0, NULL)").due("reference(0, 0)", NULL);
        // Also an id whose object the sweep has freed.
        Run.withOld(due, 0, 1).does("write(1, 0, 0) startMajor() stepMajor(2)")
            .due("exists(0)", 0).due("reference(1, 0)", 0);
    }

    private static void referenceIsInvalid(Due due) {
        Run run = freedOldYoung(due);
        for (String object : NO_OBJECTS) {
            run.due("reference(" + object + ", 0)", INVALID);
        }
        run.due("reference(0, 0) reference(1, 2) reference(1, -1) reference(1, 4)", INVALID)
            .due("reference(2, max) reference(2, min)", INVALID)
            .errors(NO_OBJECTS.length + 6, 0, 0);
        new Run(due, "allocate(0)").due("reference(0, 0)", INVALID);
    }

    private static void referenceInARoot(Due due) {
        new Run(due, "allocate(0) allocate(0) setRoot(0, 1) setRoot(3, 0)").due("root(0)", 1)
            .due("root(3)", 0);
    }

    private static void rootIndexes(Due due) {
        new Run(due).due("root(0) root(1) root(2) root(3)", NULL).errors(0, 0, 0)
            .due("root(-1) root(4)", INVALID);
    }

    private static void rootAnswers(Due due) {
        new Run(due, "allocate(0)").due("root(3)", NULL).does("setRoot(3, 0)").due("root(3)", 0)
            .does("setRoot(3, NULL)").due("root(3)", NULL);
    }

    private static void rootIsInvalid(Due due) {
        new Run(due).due("root(-1) root(4) root(100) root(max) root(min)", INVALID)
            .errors(5, 0, 0);
    }

    // ---- promises 14 and 15

    private static void colourDuringACycle(Due due) {
        Run run = Run.withOld(due, 0, 0).does("setRoot(0, 0)").due("colour(0)", REJECTED);
        run.does("startMajor()").due("colour(0)", GREY).due("colour(1)", WHITE);
        run.does("stepMajor(1)").due("colour(0)", BLACK).due("colour(1)", WHITE);
        run.does("stepMajor(1)").due("phase()", SWEEPING).due("colour(0)", BLACK)
            .due("colour(1)", WHITE);
        run.does("stepMajor(2)").due("colour(0)", BLACK).due("phase()", SWEEPING)
            .does("stepMajor(1)").due("colour(0)", REJECTED);
    }

    private static void colourOfExisting(Due due) {
        freedOldYoung(due).does("startMajor()").due("colour(1)", GREY)
            .due("colour(0) colour(3)", INVALID);
    }

    private static void colourAnswers(Due due) {
        Run run = Run.withOld(due, 0, 0, 0).does("setRoot(0, 0) setRoot(1, 2) startMajor()")
            .does("stepMajor(1)");
        run.due("colour(1)", WHITE).due("colour(2)", GREY).due("colour(0)", BLACK)
            .errors(0, 0, 0);
    }

    private static void colourIsInvalid(Due due) {
        Run run = freedOldYoung(due);
        String phases = "startMajor() stepMajor(2)";
        for (String call : ("reachableCount() " + phases).split(" ")) {
            run.does(call);
            for (String object : NO_OBJECTS) {
                run.due("colour(" + object + ")", INVALID);
            }
            run.due("colour(0)", INVALID);
        }
        run.errors(3 * NO_OBJECTS.length + 3, 0, 0);
        Run.sweeping(due).does("stepMajor(2)").due("colour(1)", INVALID);
    }

    private static void colourIsRejected(Due due) {
        Run run = freedOldYoung(due).due("colour(1) colour(2)", REJECTED).errors(0, 2, 0);
        run.does("startMajor()").due("colour(2)", REJECTED).due("colour(1)", GREY);
        run.does("stepMajor(2)").due("phase()", SWEEPING).due("colour(2)", REJECTED)
            .due("colour(1)", BLACK).errors(0, 4, 0);
        run.does("stepMajor(200)").due("phase()", IDLE).due("colour(1) colour(2)", REJECTED)
            .errors(0, 6, 0);
    }

    private static void reachableThroughFields(Due due) {
        Run run = Run.withOld(due, 2, 1).does("allocate(1) allocate(1) allocate(0)");
        run.due("reachableCount()", 0).does("write(0, 1, 2) write(2, 0, 1) write(1, 0, 0)")
            .due("reachableCount()", 0);
        run.does("setRoot(3, 0)").due("reachableCount()", 3).does("setRoot(0, 2) setRoot(1, 1)")
            .due("reachableCount()", 3);
        run.does("write(3, 0, 4)").due("reachableCount()", 3).does("setRoot(2, 3)")
            .due("reachableCount()", 5);
        run.does("write(3, 0, NULL)").due("reachableCount()", 4);
    }

    private static void reachableAnswers(Due due) {
        new Run(due).due("reachableCount()", 0).does("allocate(1)").due("reachableCount()", 0)
            .does("setRoot(3, 0) write(0, 0, 0)").due("reachableCount()", 1)
            .does("setRoot(0, 0)").due("reachableCount()", 1)
            .does("setRoot(0, NULL) setRoot(3, NULL)").due("reachableCount()", 0);
        Run chain = new Run(due, "reset(64, 128, 1)");
        for (int id = 0; id < 64; id++) {
            chain.does("allocate(1) write(" + id + ", 0, " + (id - 1) + ") setRoot(0, " + id + ")")
                .does("minorCollection()");
        }
        chain.due("reachableCount()", 64).does("write(0, 0, 63)").due("reachableCount()", 64);
        // Trees on top of the full old generation.
        chain.many(12, "allocate(4)").does("setRoot(1, 64)");
        for (int k = 1; k < 12; k++) {
            chain.does("write(" + (64 + (k - 1) / 4) + ", " + (k - 1) % 4 + ", " + (64 + k) + ")");
        }
        chain.due("reachableCount()", 76);
    }

    // ---- promises 16 to 18

    private static void youngObjects(Due due) {
        new Run(due).due("youngCount()", 0).does("allocate(0)").due("youngCount()", 1)
            .does("minorCollection()").due("youngCount()", 0);
        new Run(due, "reset(64, 128, 1)").many(64, "allocate(0)").due("youngCount()", 64)
            .due("allocate(0)", GenerationalHeap.FULL).due("youngCount()", 64);
        Run.withOld(due, 0).due("youngCount()", 0);
    }

    private static void nurseryLength(Due due) {
        Run run = freedOldYoung(due).due("youngCount()", 1).due("youngObject(0)", 2)
            .due("youngObject(1)", NONE);
        run.does("minorCollection()").due("youngCount()", 0).due("youngObject(0)", NONE);
    }

    private static void nurseryElements(Due due) {
        new Run(due, "allocate(0) allocate(0) setRoot(0, 1) setRoot(1, 0) minorCollection()")
            .due("youngObject(0)", 1).due("youngObject(1)", 0);
    }

    private static void nurseryPositions(Due due) {
        Run run = new Run(due, "reset(64, 128, 1)").many(64, "allocate(0)");
        run.due("youngObject(0)", 0).due("youngObject(63)", 63).due("youngObject(64)", NONE)
            .due("youngObject(-1)", INVALID).due("youngObject(max)", NONE);
    }

    private static void nurseryIds(Due due) {
        freedOldYoung(due).due("youngObject(0)", 2);
        Run run = new Run(due, "reset(64, 128, 1)").many(60, "allocate(0)")
            .does("minorCollection()").many(40, "allocate(0)");
        run.due("youngObject(0)", 60).due("youngObject(39)", 99);
    }

    private static void behindTheNursery(Due due) {
        new Run(due).due("youngObject(0) youngObject(1) youngObject(max)", NONE).errors(0, 0, 0);
        new Run(due, "allocate(0) allocate(0)").due("youngObject(1)", 1)
            .due("youngObject(2) youngObject(99) youngObject(100) youngObject(max)", NONE)
            .errors(0, 0, 0);
        // Also where elements have been.
        new Run(due).many(3, "allocate(0)").does("minorCollection()")
            .due("youngObject(0) youngObject(2)", NONE).errors(0, 0, 0);
    }

    private static void youngSize(Due due) {
        new Run(due).due("youngWords()", 0).does("allocate(0)").due("youngWords()", 1)
            .does("allocate(4) setRoot(0, 1)").due("youngWords()", 6).does("minorCollection()")
            .due("youngWords()", 5).does("minorCollection()").due("youngWords()", 0);
    }

    private static void youngSizeInWords(Due due) {
        new Run(due, "reset(64, 128, 1)").many(12, "allocate(4)").does("allocate(3)")
            .due("youngWords()", 64).due("allocate(0)", GenerationalHeap.FULL)
            .due("youngWords()", 64).does("reset(8, 16, 1)").due("youngWords()", 0);
    }

    // ---- promises 19 and 20

    private static void oldObjects(Due due) {
        new Run(due, "allocate(0)").due("oldCount()", 0);
        Run.withOld(due, 0).due("oldCount()", 1).does("startMajor() stepMajor(1)")
            .due("oldCount()", 1).does("stepMajor(1)").due("oldCount()", 0);
        Run.withOld(due, 0).does("allocate(0)").due("oldCount()", 1);
    }

    private static void oldCountAnswers(Due due) {
        new Run(due).due("oldCount()", 0);
        Run run = new Run(due, "reset(64, 128, 1)");
        for (int id = 0; id < 100; id++) {
            run.does("allocate(0) setRoot(0, " + id + ") minorCollection()");
        }
        run.due("oldCount()", 100).does("reset(8, 16, 1)").due("oldCount()", 0);
    }

    private static void oldSize(Due due) {
        Run run = Run.withOld(due, 4, 0).due("oldWords()", 6).does("allocate(3)")
            .due("oldWords()", 6);
        run.does("setRoot(0, 1) startMajor() stepMajor(200)").due("oldWords()", 1);
        new Run(due).due("oldWords()", 0);
    }

    private static void oldSizeInWords(Due due) {
        Run run = new Run(due, "reset(64, 128, 1)");
        for (int id = 0; id < 64; id++) {
            run.does("allocate(1) setRoot(0, " + id + ") minorCollection()");
        }
        run.due("oldWords()", 128).due("oldCount()", 64);
        run.does("allocate(0) setRoot(0, 64) minorCollection()").due("oldWords()", 128);
        run.does("startMajor() stepMajor(200)").due("oldWords()", 0);
    }

    // ---- promises 21 and 22

    private static void rememberedObjects(Due due) {
        new Run(due).due("rememberedCount()", 0);
        Run run = Run.withOld(due, 1, 2).due("rememberedCount()", 0).does("allocate(0)");
        run.does("write(1, 0, 2)").due("rememberedCount()", 1).does("write(1, 1, 2)")
            .due("rememberedCount()", 1).does("write(0, 0, 2)").due("rememberedCount()", 2);
        run.does("minorCollection()").due("rememberedCount()", 0);
    }

    private static void rememberedLength(Due due) {
        Run run = new Run(due, "reset(64, 128, 1)");
        for (int id = 0; id < 64; id++) {
            run.does("allocate(1) setRoot(0, " + id + ") minorCollection()");
        }
        run.does("allocate(0)");
        for (int id = 0; id < 64; id++) {
            run.does("write(" + id + ", 0, 64)");
        }
        run.due("rememberedCount()", 64).due("remembered(63)", 63).due("remembered(64)", NONE);
        run.does("reset(8, 16, 1)").due("rememberedCount()", 0);
    }

    /** The objects 2 and 0 are remembered, in this order. */
    private static Run twoRemembered(Due due) {
        return Run.withOld(due, 1, 1, 1).does("allocate(0) write(2, 0, 3) write(0, 0, 3)");
    }

    private static void rememberedElements(Due due) {
        twoRemembered(due).due("remembered(0)", 2).due("remembered(1)", 0);
    }

    private static void rememberedPositions(Due due) {
        twoRemembered(due).due("remembered(0)", 2).due("remembered(1)", 0)
            .due("remembered(2) remembered(max)", NONE).due("remembered(-1)", INVALID);
    }

    private static void rememberedIds(Due due) {
        twoRemembered(due).does("setRoot(0, 0) startMajor() stepMajor(200)")
            .due("exists(2)", 0).due("remembered(0)", 0).due("remembered(1)", NONE);
    }

    private static void behindTheRememberedSet(Due due) {
        new Run(due).due("remembered(0) remembered(1) remembered(max)", NONE).errors(0, 0, 0);
        twoRemembered(due).due("remembered(2) remembered(99) remembered(100) remembered(max)",
            NONE).errors(0, 0, 0);
        twoRemembered(due).does("minorCollection()").due("remembered(0) remembered(1)", NONE)
            .errors(0, 0, 0);
    }

    // ---- promises 23 to 26

    private static void phases(Due due) {
        new Run(due).due("phase()", IDLE).does("startMajor()").due("phase()", MARKING)
            .does("stepMajor(1)").due("phase()", SWEEPING).does("stepMajor(1)").due("phase()", IDLE)
            .does("startMajor() reset(8, 16, 1)").due("phase()", IDLE)
            .does("startMajor() stepMajor(1) reset(8, 16, 1)").due("phase()", IDLE);
    }

    private static void phaseAnswers(Due due) {
        due.is("IDLE", IDLE, 0);
        due.is("MARKING", MARKING, 1);
        due.is("SWEEPING", SWEEPING, 2);
        new Run(due).due("phase()", 0).does("startMajor()").due("phase()", 1)
            .does("stepMajor(1)").due("phase()", 2);
    }

    private static void greyQueueLength(Due due) {
        Run run = Run.withOld(due, 1, 0, 0).does("write(0, 0, 1) setRoot(0, 0) setRoot(1, 2)")
            .due("greyCount()", 0).does("startMajor()").due("greyCount()", 2);
        run.does("stepMajor(1)").due("greyCount()", 2).does("stepMajor(1)").due("greyCount()", 1)
            .does("stepMajor(1)").due("greyCount()", 0).due("phase()", MARKING);
        run.does("stepMajor(1)").due("greyCount()", 0).does("stepMajor(200)")
            .due("greyCount()", 0);
    }

    private static void greyObjects(Due due) {
        new Run(due).due("greyCount()", 0).does("startMajor()").due("greyCount()", 0);
        Run run = Run.withOld(due, 0, 0).does("setRoot(0, 0) setRoot(1, 0) setRoot(2, 1)")
            .does("startMajor()").due("greyCount()", 2).due("colour(0) colour(1)", GREY);
        run.does("reset(64, 128, 1)").due("greyCount()", 0);
    }

    /** Three objects fill 15 of the 16 old words; the fourth finds no room. */
    private static Run failing(Due due) {
        return new Run(due, "reset(64, 16, 1)").many(4, "allocate(4)")
            .does("setRoot(0, 0) setRoot(1, 1) setRoot(2, 2) setRoot(3, 3)");
    }

    private static void failuresSinceReset(Due due) {
        Run run = failing(due).due("promotionFailures()", 0).does("minorCollection()")
            .due("promotionFailures()", 1).does("minorCollection()").due("promotionFailures()", 2);
        run.due("reset(65, 16, 1)", INVALID).due("promotionFailures()", 2);
        run.does("reset(64, 16, 1)").due("promotionFailures()", 0);
    }

    private static void failuresAnswer(Due due) {
        new Run(due, "minorCollection()").due("promotionFailures()", 0);
        // Each survivor that finds no room counts, and one that finds some doesn't.
        Run run = failing(due).does("allocate(4) allocate(0) write(3, 0, 4) write(3, 1, 5)")
            .does("minorCollection()").due("promotionFailures()", 2).due("isOld(5)", 1);
        run.does("minorCollection()").due("promotionFailures()", 4);
    }

    private static void majorsSinceReset(Due due) {
        Run run = new Run(due).due("majorCount()", 0).does("startMajor() stepMajor(2)")
            .due("majorCount()", 1).does("startMajor() stepMajor(200)").due("majorCount()", 2);
        run.due("reset(8, 16, 6)", INVALID).due("majorCount()", 2);
        run.does("reset(8, 16, 5)").due("majorCount()", 0);
    }

    private static void majorsAnswer(Due due) {
        // A cycle counts when it is completed, and not before.
        new Run(due, "startMajor()").due("majorCount()", 0).does("stepMajor(1)")
            .due("majorCount()", 0).does("stepMajor(1)").due("majorCount()", 1)
            .due("stepMajor(1)", REJECTED).due("majorCount()", 1);
        new Run(due, "startMajor() reset(8, 16, 1)").due("majorCount()", 0);
    }
}
