import java.util.Random;

/**
 * Holds the class against PlainHeap, over many runs from fixed seeds. A run ends
 * with its 512th call: what an object answers behind that is free.
 */
public final class ModelTest {
    private static final int RUNS = 4000;
    private static final int CALLS = 512;
    private static final int CALLS_TO_A_DIGEST = 5;
    private static final String[] PIECES = {
        "alloc", "root", "write", "minor", "start", "step", "alo", "mino", "minorx", "a",
        ";", "; ", " ;", " ", "  ", "-", " -", "0", "1", " 2", " 17", " 200", "999", "1234",
        "A", "\t", "+", ","};

    private final Due due;
    private final Random random;
    private final GenerationalHeap heap = new GenerationalHeap();
    private final PlainHeap plain = new PlainHeap();
    private final StringBuilder history = new StringBuilder();
    private int calls = 0;

    private ModelTest(Due due, long seed) {
        this.due = due;
        this.random = new Random(seed);
    }

    public static void main(String[] args) {
        Due due = new Due("ModelTest");
        int runs = args.length > 0 ? Integer.parseInt(args[0]) : RUNS;
        for (int seed = 0; seed < runs && !due.isWrong(); seed++) {
            new ModelTest(due, seed).run(seed);
        }
        due.end();
    }

    private void run(int seed) {
        int style = seed % 4;
        if (random.nextInt(5) > 0) {
            call(0);
        }
        // A script of many appends is the longest that one turn adds.
        while (calls < CALLS - 160 && !due.isWrong()) {
            call(style == 3 ? random.nextInt(40) : often(style));
            if (random.nextInt(CALLS_TO_A_DIGEST) == 0) {
                check("digest()", heap.digest(), plain.digest());
            }
        }
        while (calls < CALLS - 1 && !due.isWrong()) {
            call(1 + random.nextInt(6));
        }
        check("digest()", heap.digest(), plain.digest());
        if (due.isWrong()) {
            System.out.println("seed " + seed + ": " + history);
        }
    }

    /** Mostly mutation and collection: the states worth looking at lie far from the start. */
    private int often(int style) {
        int dice = random.nextInt(100);
        if (dice < 25) {
            return 1;
        }
        if (dice < 55) {
            return 2;
        }
        if (dice < 67) {
            return 3;
        }
        if (dice < (style == 1 ? 80 : 72)) {
            return 4;
        }
        if (dice < 82) {
            return 5;
        }
        return dice < (style == 2 ? 98 : 92) ? 6 : random.nextInt(40);
    }

    private void check(String call, long got, long want) {
        calls++;
        history.append(call).append("; ");
        due.is(call, got, want);
    }

    private int id() {
        int dice = random.nextInt(60);
        if (dice == 0) {
            return random.nextInt(7) - 4;
        }
        if (dice == 1) {
            return 98 + random.nextInt(5);
        }
        if (dice == 2) {
            return random.nextBoolean() ? Integer.MAX_VALUE : Integer.MIN_VALUE;
        }
        if (dice < 50 && !plain.cells.isEmpty()) {
            int skipped = random.nextInt(plain.cells.size());
            for (int id : plain.cells.keySet()) {
                if (skipped-- == 0) {
                    return id;
                }
            }
        }
        return random.nextInt(plain.allocated + 2);
    }

    private int target() {
        return random.nextInt(6) == 0 ? -1 : id();
    }

    private int small(int low, int high) {
        return random.nextInt(30) == 0
            ? (random.nextBoolean() ? low - 1 : high + 1) : low + random.nextInt(high - low + 1);
    }

    private void call(int kind) {
        switch (kind) {
            case 0 -> reset();
            case 1 -> {
                int fields = small(0, 4);
                check("allocate(" + fields + ")", heap.allocate(fields),
                    plain.counted(plain.allocate(fields)));
            }
            case 2 -> write();
            case 3 -> {
                int index = small(0, 3);
                int target = target();
                check("setRoot(" + index + ", " + target + ")", heap.setRoot(index, target),
                    plain.counted(plain.setRoot(index, target)));
            }
            case 4 -> check("minorCollection()", heap.minorCollection(), plain.minorCollection());
            case 5 -> check("startMajor()", heap.startMajor(), plain.counted(plain.startMajor()));
            case 6 -> {
                int budget = random.nextInt(12) == 0 ? small(1, 200) : small(1, 6);
                check("stepMajor(" + budget + ")", heap.stepMajor(budget),
                    plain.counted(plain.stepMajor(budget)));
            }
            case 7, 8, 9 -> script();
            default -> ask(kind);
        }
    }

    private void reset() {
        if (plain.allocated > 0 && random.nextInt(4) > 0) {
            return;
        }
        int young = random.nextBoolean() ? 64 : small(8, 64);
        int old = random.nextBoolean() ? 128 : small(16, 128);
        int tenure = random.nextBoolean() ? 1 : small(1, 5);
        check("reset(" + young + ", " + old + ", " + tenure + ")", heap.reset(young, old, tenure),
            plain.counted(plain.reset(young, old, tenure)));
    }

    private void write() {
        int object = id();
        PlainHeap.Cell cell = plain.cells.get(object);
        int field = small(0, cell == null || cell.fields.length == 0 ? 3 : cell.fields.length - 1);
        int target = target();
        check("write(" + object + ", " + field + ", " + target + ")",
            heap.write(object, field, target), plain.counted(plain.write(object, field, target)));
    }

    private void script() {
        check("clearText()", heap.clearText(), plain.clearText());
        StringBuilder text = new StringBuilder();
        int parts = random.nextInt(10);
        boolean wild = random.nextInt(3) == 0;
        for (int k = 0; k < parts; k++) {
            text.append(wild ? PIECES[random.nextInt(PIECES.length)] : command());
        }
        for (int k = 0; k < text.length() && k < 155; k++) {
            check("append('" + text.charAt(k) + "')", heap.append(text.charAt(k)),
                plain.counted(plain.append(text.charAt(k))));
        }
        check("runScript()", heap.runScript(), plain.runScript());
    }

    private String command() {
        String gap = random.nextInt(3) == 0 ? " " : "";
        String text = switch (random.nextInt(7)) {
            case 0 -> "alloc" + gap + random.nextInt(5);
            case 1 -> "root" + gap + random.nextInt(4) + scriptTarget();
            case 2, 3 -> "write " + Math.abs(id() % 1000) + " " + random.nextInt(3) + scriptTarget();
            case 4 -> "minor" + gap;
            case 5 -> gap + "start";
            default -> "step" + gap + (1 + random.nextInt(5));
        };
        return random.nextInt(60) == 0 ? text : text + ";" + gap;
    }

    private String scriptTarget() {
        int target = target();
        return target < 0 ? "-" : " " + target % 1000;
    }

    private void ask(int kind) {
        int object = id();
        switch (kind) {
            case 10 -> check("exists(" + object + ")", heap.exists(object),
                plain.cells.containsKey(object) ? 1 : 0);
            case 11 -> check("isOld(" + object + ")", heap.isOld(object),
                plain.counted(plain.isOld(object)));
            case 12 -> check("age(" + object + ")", heap.age(object),
                plain.counted(plain.age(object)));
            case 13, 14 -> {
                int field = small(0, 4);
                check("reference(" + object + ", " + field + ")", heap.reference(object, field),
                    plain.counted(plain.reference(object, field)));
            }
            case 15 -> {
                int index = small(0, 3);
                check("root(" + index + ")", heap.root(index),
                    plain.counted(index < 0 || index > 3 ? -2 : plain.roots[index]));
            }
            case 16, 17 -> check("colour(" + object + ")", heap.colour(object),
                plain.counted(plain.colour(object)));
            case 18 -> check("describe(" + object + ")", heap.describe(object),
                plain.counted(plain.describe(object)));
            default -> askMore(kind);
        }
    }

    private void askMore(int kind) {
        int index = small(0, 40);
        switch (kind) {
            case 19 -> check("outputByte(" + index + ")", heap.outputByte(index),
                plain.counted(plain.outputByte(index)));
            case 20 -> check("youngObject(" + index + ")", heap.youngObject(index),
                plain.counted(plain.element(plain.nursery, index)));
            case 21 -> check("remembered(" + index + ")", heap.remembered(index),
                plain.counted(plain.element(plain.remembered, index)));
            case 22 -> check("reachableCount()", heap.reachableCount(), plain.reachableCount());
            case 23 -> check("youngCount()", heap.youngCount(), plain.nursery.size());
            case 24 -> check("youngWords()", heap.youngWords(), plain.words(false));
            case 25 -> check("oldCount()", heap.oldCount(), plain.count(true));
            case 26 -> check("oldWords()", heap.oldWords(), plain.words(true));
            case 27 -> check("rememberedCount()", heap.rememberedCount(), plain.remembered.size());
            case 28 -> check("phase()", heap.phase(), plain.phase);
            case 29 -> check("greyCount()", heap.greyCount(), plain.grey.size());
            case 30 -> check("promotionFailures()", heap.promotionFailures(), plain.failures);
            case 31 -> check("majorCount()", heap.majorCount(), plain.majors);
            case 32 -> {
                int kindOfError = small(0, 2);
                check("errorCount(" + kindOfError + ")", heap.errorCount(kindOfError),
                    plain.counted(plain.errorCount(kindOfError)));
            }
            case 33 -> check("clearText()", heap.clearText(), plain.clearText());
            case 34 -> {
                int value = small(0, 127);
                check("append(" + value + ")", heap.append(value),
                    plain.counted(plain.append(value)));
            }
            case 35 -> check("runScript()", heap.runScript(), plain.runScript());
            default -> call(1 + random.nextInt(6));
        }
    }
}
