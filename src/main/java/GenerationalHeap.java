import java.util.Arrays;

/**
 * A simulator of a generational garbage collector: a copying nursery, an old
 * generation that is marked and swept in steps, a remembered set, and
 * promotion by age.
 */
public final class GenerationalHeap {
    public static final int NULL = -1;
    public static final int INVALID = -2;
    public static final int REJECTED = -3;
    public static final int FULL = -4;
    public static final int NONE = -5;
    public static final int IDLE = 0, MARKING = 1, SWEEPING = 2;
    public static final int WHITE = 0, GREY = 1, BLACK = 2;

    private static final int MAX_OBJECTS = 100;
    private static final int MAX_FIELDS = 4;
    private static final int ROOT_COUNT = 4;
    private static final int MAX_BUDGET = 200;
    private static final int TEXT_CAPACITY = 150;
    private static final int MAX_BYTE = 127;
    private static final int ERROR_KINDS = 3;
    private static final long DIGEST_START = 18028L;
    private static final int SYNTAX_ERROR = -10;
    private static final int COMMAND_FAILED = -1000;

    private final Heap heap = new Heap();
    private final ObjectTable objects = heap.table();
    private final MajorCollector major = new MajorCollector(heap);
    private final MinorCollector minor = new MinorCollector(heap, major);
    private final Script script = new Script();
    private final int[] errors = new int[ERROR_KINDS];
    private String output = "";

    public GenerationalHeap() {
        heap.restart(24, 60, 2);
    }

    // ---- configuration and mutator

    public int reset(int nursery, int old, int tenure) {
        if (outside(nursery, 8, 64) || outside(old, 16, 128) || outside(tenure, 1, 5)) {
            return counted(INVALID);
        }
        int existing = heap.nursery().size() + objects.oldObjects();
        heap.restart(nursery, old, tenure);
        major.restart();
        minor.restart();
        return existing;
    }

    public int allocate(int fields) {
        return counted(heap.place(fields));
    }

    public int write(int object, int field, int target) {
        return counted(storeInField(object, field, target));
    }

    public int setRoot(int index, int target) {
        return counted(storeInRoot(index, target));
    }

    // ---- collectors

    public int minorCollection() {
        return minor.collect();
    }

    public int startMajor() {
        return counted(major.begin());
    }

    public int stepMajor(int budget) {
        return counted(major.advance(budget));
    }

    // ---- objects

    public int exists(int object) {
        return objects.isLive(object) ? 1 : 0;
    }

    public int isOld(int object) {
        if (!objects.isLive(object)) {
            return counted(INVALID);
        }
        return objects.inOldGeneration(object) ? 1 : 0;
    }

    public int age(int object) {
        return objects.isLive(object) ? objects.ageOf(object) : counted(INVALID);
    }

    public int reference(int object, int field) {
        return objects.hasField(object, field) ? objects.fieldOf(object, field) : counted(INVALID);
    }

    public int root(int index) {
        return heap.hasRoot(index) ? heap.rootAt(index) : counted(INVALID);
    }

    public int colour(int object) {
        if (!objects.isLive(object)) {
            return counted(INVALID);
        }
        return major.hasColour(object) ? objects.colourOf(object) : counted(REJECTED);
    }

    public int reachableCount() {
        return heap.countReachable();
    }

    // ---- generations

    public int youngCount() {
        return heap.nursery().size();
    }

    public int youngObject(int index) {
        return index < 0 ? counted(INVALID) : heap.nursery().at(index);
    }

    public int youngWords() {
        return objects.wordsYoung();
    }

    public int oldCount() {
        return objects.oldObjects();
    }

    public int oldWords() {
        return objects.wordsOld();
    }

    public int rememberedCount() {
        return heap.rememberedSet().size();
    }

    public int remembered(int index) {
        return index < 0 ? counted(INVALID) : heap.rememberedSet().at(index);
    }

    public int phase() {
        return major.currentPhase();
    }

    public int greyCount() {
        return major.greyObjects();
    }

    public int promotionFailures() {
        return minor.failedPromotions();
    }

    public int majorCount() {
        return major.completedCycles();
    }

    // ---- text

    public int describe(int object) {
        if (!objects.isLive(object)) {
            return counted(INVALID);
        }
        output = description(object);
        return output.length();
    }

    public int outputByte(int index) {
        if (index < 0) {
            return counted(INVALID);
        }
        if (index >= output.length()) {
            return NONE;
        }
        return output.charAt(index);
    }

    public int append(int value) {
        return counted(script.addByte(value));
    }

    public int clearText() {
        return script.clear();
    }

    public int runScript() {
        int wrongAt = script.parse();
        if (wrongAt != NONE) {
            return SYNTAX_ERROR - wrongAt;
        }
        int commands = script.commandCount();
        for (int command = 0; command < commands; command++) {
            if (isError(execute(command))) {
                return COMMAND_FAILED - command;
            }
        }
        return commands;
    }

    public int errorCount(int kind) {
        return outside(kind, 0, ERROR_KINDS - 1) ? counted(INVALID) : errors[kind];
    }

    public long digest() {
        long hash = digestOfCounters(DIGEST_START);
        hash = digestOfGenerations(hash);
        for (int id = 0; id < MAX_OBJECTS; id++) {
            if (objects.isLive(id)) {
                hash = digestOfObject(hash, id);
            }
        }
        return mixed(hash, heap.countReachable());
    }

    // ---- what the methods of the face share

    private static boolean outside(int value, int lowest, int highest) {
        return value < lowest || value > highest;
    }

    private static boolean isError(int answer) {
        return answer == INVALID || answer == REJECTED || answer == FULL;
    }

    /** Passes an answer on; scripts go round it, as their failures aren't counted. */
    private int counted(int answer) {
        if (isError(answer)) {
            errors[INVALID - answer]++;
        }
        return answer;
    }

    private boolean isTarget(int target) {
        return target == NULL || objects.isLive(target);
    }

    private int storeInField(int object, int field, int target) {
        if (!objects.hasField(object, field) || !isTarget(target)) {
            return INVALID;
        }
        if (major.isDoomed(target)) {
            return REJECTED;
        }
        int previous = objects.fieldOf(object, field);
        heap.putField(object, field, target);
        major.noteStore(target);
        return previous;
    }

    private int storeInRoot(int index, int target) {
        if (!heap.hasRoot(index) || !isTarget(target)) {
            return INVALID;
        }
        if (major.isDoomed(target)) {
            return REJECTED;
        }
        int previous = heap.rootAt(index);
        heap.putRoot(index, target);
        major.noteStore(target);
        return previous;
    }

    private int execute(int command) {
        int first = script.argument(command, 0);
        int second = script.argument(command, 1);
        switch (script.wordOf(command)) {
            case Script.ALLOC:
                return heap.place(first);
            case Script.ROOT:
                return storeInRoot(first, second);
            case Script.WRITE:
                return storeInField(first, second, script.argument(command, 2));
            case Script.MINOR:
                return minor.collect();
            case Script.START:
                return major.begin();
            case Script.STEP:
                return major.advance(first);
            default:
                return INVALID;
        }
    }

    private String description(int object) {
        StringBuilder line = new StringBuilder();
        line.append('#').append(object);
        line.append(objects.inOldGeneration(object) ? " old" : " young");
        line.append(" age=").append(objects.ageOf(object)).append(" [");
        for (int field = 0; field < objects.fieldsOf(object); field++) {
            if (field > 0) {
                line.append(',');
            }
            int target = objects.fieldOf(object, field);
            if (target == NULL) {
                line.append('-');
            } else {
                line.append(target);
            }
        }
        return line.append(']').toString();
    }

    private static long mixed(long hash, long value) {
        return 31L * hash + value;
    }

    private long digestOfCounters(long start) {
        long hash = start;
        for (int kind = 0; kind < ERROR_KINDS; kind++) {
            hash = mixed(hash, errors[kind]);
        }
        hash = mixed(hash, script.textLength());
        hash = mixed(hash, output.length());
        for (int index = 0; index < ROOT_COUNT; index++) {
            hash = mixed(hash, heap.rootAt(index));
        }
        hash = mixed(hash, major.currentPhase());
        hash = mixed(hash, major.greyObjects());
        hash = mixed(hash, objects.allocatedObjects());
        hash = mixed(hash, minor.failedPromotions());
        hash = mixed(hash, minor.completedRuns());
        return mixed(hash, major.completedCycles());
    }

    private long digestOfGenerations(long start) {
        long hash = digestOfList(start, heap.nursery());
        hash = mixed(hash, objects.wordsYoung());
        hash = mixed(hash, objects.oldObjects());
        hash = mixed(hash, objects.wordsOld());
        return digestOfList(hash, heap.rememberedSet());
    }

    private static long digestOfList(long start, IdList list) {
        long hash = mixed(start, list.size());
        for (int index = 0; index < list.size(); index++) {
            hash = mixed(hash, list.at(index));
        }
        return hash;
    }

    private long digestOfObject(long start, int id) {
        long hash = mixed(start, id);
        hash = mixed(hash, objects.inOldGeneration(id) ? 1 : 0);
        hash = mixed(hash, objects.ageOf(id));
        hash = mixed(hash, objects.fieldsOf(id));
        for (int field = 0; field < objects.fieldsOf(id); field++) {
            hash = mixed(hash, objects.fieldOf(id, field));
        }
        return major.hasColour(id) ? mixed(hash, objects.colourOf(id)) : hash;
    }

    /** A list of object ids without duplicates, in the order in which they came. */
    private static final class IdList {
        private final int[] ids = new int[MAX_OBJECTS];
        private final boolean[] listed = new boolean[MAX_OBJECTS];
        private int size = 0;

        int size() {
            return size;
        }

        int at(int index) {
            return index >= 0 && index < size ? ids[index] : NONE;
        }

        boolean has(int id) {
            return id >= 0 && id < MAX_OBJECTS && listed[id];
        }

        void add(int id) {
            if (id >= 0 && id < MAX_OBJECTS && !listed[id] && size < MAX_OBJECTS) {
                listed[id] = true;
                ids[size] = id;
                size++;
            }
        }

        int takeFirst() {
            int first = at(0);
            drop(first);
            return first;
        }

        void drop(int id) {
            if (!has(id)) {
                return;
            }
            listed[id] = false;
            int kept = 0;
            for (int index = 0; index < size; index++) {
                if (ids[index] != id) {
                    ids[kept] = ids[index];
                    kept++;
                }
            }
            size = kept;
        }

        void clear() {
            for (int id = 0; id < MAX_OBJECTS; id++) {
                listed[id] = false;
            }
            size = 0;
        }
    }

    /** What is known of each object, by its id. */
    private static final class ObjectTable {
        private static final int ABSENT = 0, YOUNG = 1, OLD = 2;

        private final int[] generations = new int[MAX_OBJECTS];
        private final int[] ages = new int[MAX_OBJECTS];
        private final int[] fieldCounts = new int[MAX_OBJECTS];
        private final int[] colours = new int[MAX_OBJECTS];
        private final int[] references = new int[MAX_OBJECTS * MAX_FIELDS];
        private int allocated = 0;
        private int youngSize = 0;
        private int oldSize = 0;
        private int oldNumber = 0;

        void clear() {
            Arrays.fill(generations, ABSENT);
            allocated = 0;
            youngSize = 0;
            oldSize = 0;
            oldNumber = 0;
        }

        int allocatedObjects() {
            return allocated;
        }

        int wordsYoung() {
            return youngSize;
        }

        int wordsOld() {
            return oldSize;
        }

        int oldObjects() {
            return oldNumber;
        }

        boolean isLive(int id) {
            return id >= 0 && id < MAX_OBJECTS && generations[id] != ABSENT;
        }

        boolean inNursery(int id) {
            return id >= 0 && id < MAX_OBJECTS && generations[id] == YOUNG;
        }

        boolean inOldGeneration(int id) {
            return id >= 0 && id < MAX_OBJECTS && generations[id] == OLD;
        }

        int ageOf(int id) {
            return id >= 0 && id < MAX_OBJECTS ? ages[id] : 0;
        }

        int fieldsOf(int id) {
            return id >= 0 && id < MAX_OBJECTS ? fieldCounts[id] : 0;
        }

        int sizeOf(int id) {
            return id >= 0 && id < MAX_OBJECTS ? 1 + fieldCounts[id] : 0;
        }

        int colourOf(int id) {
            return id >= 0 && id < MAX_OBJECTS ? colours[id] : WHITE;
        }

        boolean isWhiteOld(int id) {
            return id >= 0 && id < MAX_OBJECTS && generations[id] == OLD && colours[id] == WHITE;
        }

        boolean hasField(int id, int field) {
            return isLive(id) && field >= 0 && field < fieldsOf(id);
        }

        int fieldOf(int id, int field) {
            boolean inside = id >= 0 && id < MAX_OBJECTS && field >= 0 && field < MAX_FIELDS;
            return inside ? references[id * MAX_FIELDS + field] : NULL;
        }

        void setField(int id, int field, int target) {
            if (hasField(id, field)) {
                references[id * MAX_FIELDS + field] = target;
            }
        }

        boolean refersToYoung(int id) {
            for (int field = 0; field < fieldsOf(id); field++) {
                if (inNursery(fieldOf(id, field))) {
                    return true;
                }
            }
            return false;
        }

        /** Makes a young object; the caller has seen that there is an id and room for it. */
        int create(int fields) {
            int id = allocated;
            if (id < 0 || id >= MAX_OBJECTS || outside(fields, 0, MAX_FIELDS)) {
                return NONE;
            }
            allocated++;
            generations[id] = YOUNG;
            ages[id] = 0;
            fieldCounts[id] = fields;
            for (int field = 0; field < fields; field++) {
                setField(id, field, NULL);
            }
            youngSize += sizeOf(id);
            return id;
        }

        void growOlder(int id) {
            if (id >= 0 && id < MAX_OBJECTS) {
                ages[id]++;
            }
        }

        void paint(int id, int colour) {
            if (id >= 0 && id < MAX_OBJECTS) {
                colours[id] = colour;
            }
        }

        void promote(int id) {
            if (inNursery(id)) {
                generations[id] = OLD;
                youngSize -= sizeOf(id);
                oldSize += sizeOf(id);
                oldNumber++;
            }
        }

        void free(int id) {
            if (inNursery(id)) {
                youngSize -= sizeOf(id);
                generations[id] = ABSENT;
            } else if (inOldGeneration(id)) {
                oldSize -= sizeOf(id);
                oldNumber--;
                generations[id] = ABSENT;
            }
        }
    }

    /** The objects with the roots, the nursery, the remembered set and the capacities. */
    private static final class Heap {
        private final ObjectTable table = new ObjectTable();
        private final int[] roots = new int[ROOT_COUNT];
        private final IdList nursery = new IdList();
        private final IdList rememberedSet = new IdList();
        private final IdList reached = new IdList();
        private int nurseryCapacity = 0;
        private int oldCapacity = 0;
        private int threshold = 0;

        void restart(int nurseryWords, int oldWords, int tenure) {
            table.clear();
            Arrays.fill(roots, NULL);
            nursery.clear();
            rememberedSet.clear();
            nurseryCapacity = nurseryWords;
            oldCapacity = oldWords;
            threshold = tenure;
        }

        ObjectTable table() {
            return table;
        }

        IdList nursery() {
            return nursery;
        }

        IdList rememberedSet() {
            return rememberedSet;
        }

        boolean isTenured(int id) {
            return table.ageOf(id) >= threshold;
        }

        boolean hasOldRoomFor(int id) {
            return oldCapacity - table.wordsOld() >= table.sizeOf(id);
        }

        /** Allocates a young object and answers its id, or why there is none. */
        int place(int fields) {
            if (outside(fields, 0, MAX_FIELDS)) {
                return INVALID;
            }
            boolean fits = nurseryCapacity - table.wordsYoung() >= 1 + fields;
            if (!fits || table.allocatedObjects() >= MAX_OBJECTS) {
                return FULL;
            }
            int id = table.create(fields);
            nursery.add(id);
            return id;
        }

        boolean hasRoot(int index) {
            return index >= 0 && index < ROOT_COUNT;
        }

        int rootAt(int index) {
            return hasRoot(index) ? roots[index] : NULL;
        }

        void putRoot(int index, int target) {
            if (hasRoot(index)) {
                roots[index] = target;
            }
        }

        void putField(int id, int field, int target) {
            table.setField(id, field, target);
            if (table.inOldGeneration(id) && table.inNursery(target)) {
                rememberedSet.add(id);
            }
        }

        int countReachable() {
            reached.clear();
            for (int index = 0; index < ROOT_COUNT; index++) {
                reach(roots[index]);
            }
            // The list grows while it is traversed, but never beyond all objects.
            for (int index = 0; index < MAX_OBJECTS && index < reached.size(); index++) {
                int id = reached.at(index);
                for (int field = 0; field < table.fieldsOf(id); field++) {
                    reach(table.fieldOf(id, field));
                }
            }
            return reached.size();
        }

        private void reach(int id) {
            if (table.isLive(id)) {
                reached.add(id);
            }
        }
    }

    /** Marks and sweeps the old generation in steps. */
    private static final class MajorCollector {
        private final Heap heap;
        private final ObjectTable table;
        private final IdList greyQueue = new IdList();
        private final IdList sweepList = new IdList();
        private int state = IDLE;
        private int completed = 0;

        MajorCollector(Heap heap) {
            this.heap = heap;
            this.table = heap.table();
        }

        void restart() {
            greyQueue.clear();
            sweepList.clear();
            state = IDLE;
            completed = 0;
        }

        int currentPhase() {
            return state;
        }

        int greyObjects() {
            return greyQueue.size();
        }

        int completedCycles() {
            return completed;
        }

        boolean hasColour(int id) {
            return state != IDLE && table.inOldGeneration(id);
        }

        /** Tells whether the sweep will free the object, so that it must not be stored again. */
        boolean isDoomed(int id) {
            return state == SWEEPING && table.isWhiteOld(id);
        }

        void noteStore(int target) {
            if (state == MARKING) {
                shade(target);
            }
        }

        void notePromotion(int id) {
            if (state == MARKING) {
                table.paint(id, GREY);
                greyQueue.add(id);
            } else if (state == SWEEPING) {
                table.paint(id, BLACK);
            }
        }

        /** Starts a cycle and answers the number of grey objects, or why it can't start. */
        int begin() {
            if (state != IDLE) {
                return REJECTED;
            }
            for (int id = 0; id < MAX_OBJECTS; id++) {
                table.paint(id, WHITE);
            }
            greyQueue.clear();
            state = MARKING;
            return scanRoots();
        }

        /** Performs units and answers the number of freed objects, or why there is no step. */
        int advance(int budget) {
            if (outside(budget, 1, MAX_BUDGET)) {
                return INVALID;
            }
            if (state == IDLE) {
                return REJECTED;
            }
            int before = table.oldObjects();
            for (int unit = 0; unit < budget && state != IDLE; unit++) {
                if (state == SWEEPING) {
                    sweepUnit();
                } else if (greyQueue.size() > 0) {
                    markUnit();
                } else if (scanRoots() == 0) {
                    startSweeping();
                }
            }
            return before - table.oldObjects();
        }

        private void markUnit() {
            int id = greyQueue.takeFirst();
            shadeFields(id);
            table.paint(id, BLACK);
        }

        private void sweepUnit() {
            if (sweepList.size() == 0) {
                state = IDLE;
                completed++;
                return;
            }
            int id = sweepList.takeFirst();
            if (table.isWhiteOld(id)) {
                table.free(id);
                heap.rememberedSet().drop(id);
            }
        }

        private void startSweeping() {
            state = SWEEPING;
            sweepList.clear();
            for (int id = 0; id < MAX_OBJECTS; id++) {
                if (table.inOldGeneration(id)) {
                    sweepList.add(id);
                }
            }
        }

        /** Performs a root scan and answers the number of grey objects behind it. */
        private int scanRoots() {
            for (int index = 0; index < ROOT_COUNT; index++) {
                shade(heap.rootAt(index));
            }
            IdList nursery = heap.nursery();
            for (int index = 0; index < nursery.size(); index++) {
                shadeFields(nursery.at(index));
            }
            return greyQueue.size();
        }

        private void shadeFields(int id) {
            for (int field = 0; field < table.fieldsOf(id); field++) {
                shade(table.fieldOf(id, field));
            }
        }

        private void shade(int id) {
            if (table.isWhiteOld(id)) {
                table.paint(id, GREY);
                greyQueue.add(id);
            }
        }
    }

    /** Collects the nursery. */
    private static final class MinorCollector {
        private final Heap heap;
        private final ObjectTable table;
        private final MajorCollector major;
        private final IdList survivors = new IdList();
        private int failures = 0;
        private int runs = 0;

        MinorCollector(Heap heap, MajorCollector major) {
            this.heap = heap;
            this.table = heap.table();
            this.major = major;
        }

        void restart() {
            failures = 0;
            runs = 0;
        }

        int failedPromotions() {
            return failures;
        }

        int completedRuns() {
            return runs;
        }

        /** Performs a minor collection and answers the number of freed objects. */
        int collect() {
            traceSurvivors();
            ageSurvivors();
            int freed = freeOthers();
            renewNursery();
            renewRememberedSet();
            runs++;
            return freed;
        }

        private void traceSurvivors() {
            survivors.clear();
            for (int index = 0; index < ROOT_COUNT; index++) {
                visit(heap.rootAt(index));
            }
            IdList remembered = heap.rememberedSet();
            for (int index = 0; index < remembered.size(); index++) {
                visitFields(remembered.at(index));
            }
            // The list grows while it is traversed, but never beyond all objects.
            for (int index = 0; index < MAX_OBJECTS && index < survivors.size(); index++) {
                visitFields(survivors.at(index));
            }
        }

        private void visitFields(int id) {
            for (int field = 0; field < table.fieldsOf(id); field++) {
                visit(table.fieldOf(id, field));
            }
        }

        private void visit(int id) {
            if (table.inNursery(id)) {
                survivors.add(id);
            }
        }

        private void ageSurvivors() {
            for (int index = 0; index < survivors.size(); index++) {
                int id = survivors.at(index);
                table.growOlder(id);
                if (heap.isTenured(id)) {
                    promoteIfRoom(id);
                }
            }
        }

        private void promoteIfRoom(int id) {
            if (heap.hasOldRoomFor(id)) {
                table.promote(id);
                major.notePromotion(id);
            } else {
                failures++;
            }
        }

        private int freeOthers() {
            IdList nursery = heap.nursery();
            int freed = 0;
            for (int index = 0; index < nursery.size(); index++) {
                int id = nursery.at(index);
                if (!survivors.has(id)) {
                    table.free(id);
                    freed++;
                }
            }
            return freed;
        }

        private void renewNursery() {
            IdList nursery = heap.nursery();
            nursery.clear();
            for (int index = 0; index < survivors.size(); index++) {
                int id = survivors.at(index);
                if (table.inNursery(id)) {
                    nursery.add(id);
                }
            }
        }

        private void renewRememberedSet() {
            IdList remembered = heap.rememberedSet();
            for (int index = 0; index < survivors.size(); index++) {
                int id = survivors.at(index);
                if (table.inOldGeneration(id)) {
                    remembered.add(id);
                }
            }
            // Backwards, so that a dropped id doesn't shift those still to be looked at.
            for (int index = remembered.size() - 1; index >= 0; index--) {
                int id = remembered.at(index);
                if (!table.refersToYoung(id)) {
                    remembered.drop(id);
                }
            }
        }
    }

    /** The text buffer, and the commands that were found in it. */
    private static final class Script {
        static final int ALLOC = 0, ROOT = 1, WRITE = 2, MINOR = 3, START = 4, STEP = 5;

        private static final int UNKNOWN = 6;
        private static final int[] ARGUMENT_COUNTS = {1, 2, 3, 0, 0, 1};
        private static final int MAX_ARGUMENTS = 3;
        private static final int MAX_DIGITS = 3;
        // The shortest commands, such as "minor;", have six bytes.
        private static final int MAX_COMMANDS = TEXT_CAPACITY / 6;

        private final int[] words = new int[MAX_COMMANDS];
        private final int[] arguments = new int[MAX_COMMANDS * MAX_ARGUMENTS];
        private final byte[] text = new byte[TEXT_CAPACITY];
        private int length = 0;
        private int position = 0;
        private int wrongAt = NONE;
        private int count = 0;

        int textLength() {
            return length;
        }

        int addByte(int value) {
            if (outside(value, 0, MAX_BYTE)) {
                return INVALID;
            }
            if (length >= TEXT_CAPACITY) {
                return FULL;
            }
            text[length] = (byte) value;
            length++;
            return length;
        }

        int clear() {
            int previous = length;
            length = 0;
            return previous;
        }

        int commandCount() {
            return count;
        }

        int wordOf(int command) {
            return command >= 0 && command < count ? words[command] : UNKNOWN;
        }

        int argument(int command, int index) {
            boolean known = command >= 0 && command < count && index >= 0 && index < MAX_ARGUMENTS;
            return known ? arguments[command * MAX_ARGUMENTS + index] : NULL;
        }

        /** Parses the text and answers the position of the first error, or NONE. */
        int parse() {
            position = 0;
            wrongAt = NONE;
            count = 0;
            parseCommand();
            for (int k = 1; k < MAX_COMMANDS && wrongAt == NONE && position < length; k++) {
                parseCommand();
            }
            return wrongAt;
        }

        /** Also skips the spaces behind the command, so that the next one starts at a byte. */
        private void parseCommand() {
            skipSpaces();
            int word = readWord();
            if (word >= 0 && word < ARGUMENT_COUNTS.length && count < MAX_COMMANDS) {
                words[count] = word;
                for (int index = 0; index < ARGUMENT_COUNTS[word]; index++) {
                    int value = readArgument(takesTarget(word, index));
                    arguments[count * MAX_ARGUMENTS + index] = value;
                }
                readSemicolon();
                count++;
            }
            skipSpaces();
        }

        private static boolean takesTarget(int word, int index) {
            return word == ROOT && index == 1 || word == WRITE && index == 2;
        }

        private int readWord() {
            int start = position;
            for (int k = start; k < length && isLetter(here()); k++) {
                position++;
            }
            int word = start == position ? UNKNOWN : wordBetween(start, position);
            if (word == UNKNOWN) {
                failAt(start);
            }
            return word;
        }

        private int readArgument(boolean target) {
            skipSpaces();
            if (target && here() == '-') {
                position++;
                return NULL;
            }
            return readNumber();
        }

        private int readNumber() {
            int value = 0;
            int digits = 0;
            for (int k = 0; k < MAX_DIGITS && isDigit(here()); k++) {
                value = 10 * value + here() - '0';
                digits++;
                position++;
            }
            if (digits == 0 || isDigit(here())) {
                failAt(position);
            }
            return value;
        }

        private void readSemicolon() {
            skipSpaces();
            if (here() == ';') {
                position++;
            } else {
                failAt(position);
            }
        }

        private void skipSpaces() {
            for (int k = position; k < length && here() == ' '; k++) {
                position++;
            }
        }

        /** Keeps the first error: what is read behind it has no meaning. */
        private void failAt(int place) {
            if (wrongAt == NONE) {
                wrongAt = place;
            }
        }

        private int here() {
            if (position < 0 || position >= length) {
                return NONE;
            }
            return text[position];
        }

        private static boolean isLetter(int value) {
            return value >= 'a' && value <= 'z';
        }

        private static boolean isDigit(int value) {
            return value >= '0' && value <= '9';
        }

        private int wordBetween(int start, int end) {
            for (int word = ALLOC; word <= STEP; word++) {
                if (spells(start, end, spellingOf(word))) {
                    return word;
                }
            }
            return UNKNOWN;
        }

        private static String spellingOf(int word) {
            switch (word) {
                case ALLOC:
                    return "alloc";
                case ROOT:
                    return "root";
                case WRITE:
                    return "write";
                case MINOR:
                    return "minor";
                case START:
                    return "start";
                case STEP:
                    return "step";
                default:
                    return "";
            }
        }

        private boolean spells(int start, int end, String spelling) {
            if (start < 0 || end > length || end - start != spelling.length()) {
                return false;
            }
            for (int k = 0; k < spelling.length(); k++) {
                if (text[start + k] != spelling.charAt(k)) {
                    return false;
                }
            }
            return true;
        }
    }
}
