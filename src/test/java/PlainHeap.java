import java.util.ArrayDeque;
import java.util.ArrayList;
import java.util.Arrays;
import java.util.Collection;
import java.util.LinkedHashSet;
import java.util.List;
import java.util.TreeMap;

/**
 * The document told a second time, with the Java library and without a thought
 * for speed, so that the class can be held against it. Calls that a script
 * makes are not counted, so the counting stands apart in `counted`.
 */
final class PlainHeap {
    static final class Cell {
        final int id;
        final int[] fields;
        boolean old = false;
        int age = 0;
        int colour = 0;

        Cell(int id, int fields) {
            this.id = id;
            this.fields = new int[fields];
            Arrays.fill(this.fields, -1);
        }

        int size() {
            return 1 + fields.length;
        }
    }

    final TreeMap<Integer, Cell> cells = new TreeMap<>();
    final int[] roots = {-1, -1, -1, -1};
    final int[] errors = new int[3];
    final List<Integer> nursery = new ArrayList<>();
    final LinkedHashSet<Integer> remembered = new LinkedHashSet<>();
    final ArrayDeque<Integer> grey = new ArrayDeque<>();
    final ArrayDeque<Integer> sweep = new ArrayDeque<>();
    final StringBuilder text = new StringBuilder();
    String output = "";
    int nurseryCapacity = 24;
    int oldCapacity = 60;
    int tenure = 2;
    int allocated = 0;
    int phase = 0;
    int failures = 0;
    int minors = 0;
    int majors = 0;

    int counted(int answer) {
        if (answer <= -2 && answer >= -4) {
            errors[-2 - answer]++;
        }
        return answer;
    }

    int reset(int young, int old, int threshold) {
        if (young < 8 || young > 64 || old < 16 || old > 128 || threshold < 1 || threshold > 5) {
            return -2;
        }
        int before = cells.size();
        cells.clear();
        Arrays.fill(roots, -1);
        nursery.clear();
        remembered.clear();
        grey.clear();
        sweep.clear();
        nurseryCapacity = young;
        oldCapacity = old;
        tenure = threshold;
        allocated = 0;
        phase = 0;
        failures = 0;
        minors = 0;
        majors = 0;
        return before;
    }

    int words(boolean old) {
        int sum = 0;
        for (Cell cell : cells.values()) {
            sum += cell.old == old ? cell.size() : 0;
        }
        return sum;
    }

    int count(boolean old) {
        int sum = 0;
        for (Cell cell : cells.values()) {
            sum += cell.old == old ? 1 : 0;
        }
        return sum;
    }

    int allocate(int fields) {
        if (fields < 0 || fields > 4) {
            return -2;
        }
        if (words(false) + 1 + fields > nurseryCapacity || allocated == 100) {
            return -4;
        }
        cells.put(allocated, new Cell(allocated, fields));
        nursery.add(allocated);
        return allocated++;
    }

    boolean badTarget(int target) {
        return target != -1 && !cells.containsKey(target);
    }

    boolean sweptSoon(int target) {
        Cell cell = cells.get(target);
        return phase == 2 && cell != null && cell.old && cell.colour == 0;
    }

    int write(int object, int field, int target) {
        Cell cell = cells.get(object);
        if (cell == null || field < 0 || field >= cell.fields.length || badTarget(target)) {
            return -2;
        }
        if (sweptSoon(target)) {
            return -3;
        }
        int before = cell.fields[field];
        cell.fields[field] = target;
        if (cell.old && target != -1 && !cells.get(target).old) {
            remembered.add(object);
        }
        if (phase == 1) {
            shade(target);
        }
        return before;
    }

    int setRoot(int index, int target) {
        if (index < 0 || index > 3 || badTarget(target)) {
            return -2;
        }
        if (sweptSoon(target)) {
            return -3;
        }
        int before = roots[index];
        roots[index] = target;
        if (phase == 1) {
            shade(target);
        }
        return before;
    }

    private void survive(List<Integer> survivors, int target) {
        Cell cell = cells.get(target);
        if (cell != null && !cell.old && !survivors.contains(target)) {
            survivors.add(target);
        }
    }

    int minorCollection() {
        List<Integer> survivors = new ArrayList<>();
        for (int target : roots) {
            survive(survivors, target);
        }
        for (int id : remembered) {
            for (int target : cells.get(id).fields) {
                survive(survivors, target);
            }
        }
        for (int k = 0; k < survivors.size(); k++) {
            for (int target : cells.get(survivors.get(k)).fields) {
                survive(survivors, target);
            }
        }
        List<Integer> promoted = new ArrayList<>();
        for (int id : survivors) {
            Cell cell = cells.get(id);
            cell.age++;
            if (cell.age < tenure) {
                continue;
            }
            if (oldCapacity - words(true) < cell.size()) {
                failures++;
                continue;
            }
            cell.old = true;
            promoted.add(id);
            if (phase == 1) {
                cell.colour = 1;
                grey.add(id);
            } else {
                cell.colour = 2;
            }
        }
        int freed = 0;
        for (int id : nursery) {
            if (!survivors.contains(id)) {
                cells.remove(id);
                freed++;
            }
        }
        nursery.clear();
        for (int id : survivors) {
            if (!cells.get(id).old) {
                nursery.add(id);
            }
        }
        remembered.addAll(promoted);
        remembered.removeIf(id -> !pointsToYoung(id));
        minors++;
        return freed;
    }

    private boolean pointsToYoung(int id) {
        for (int target : cells.get(id).fields) {
            if (cells.containsKey(target) && !cells.get(target).old) {
                return true;
            }
        }
        return false;
    }

    private void shade(int target) {
        Cell cell = cells.get(target);
        if (cell != null && cell.old && cell.colour == 0) {
            cell.colour = 1;
            grey.add(target);
        }
    }

    private void rootScan() {
        for (int target : roots) {
            shade(target);
        }
        for (int id : nursery) {
            for (int target : cells.get(id).fields) {
                shade(target);
            }
        }
    }

    int startMajor() {
        if (phase != 0) {
            return -3;
        }
        for (Cell cell : cells.values()) {
            cell.colour = 0;
        }
        grey.clear();
        phase = 1;
        rootScan();
        return grey.size();
    }

    int stepMajor(int budget) {
        if (budget < 1 || budget > 200) {
            return -2;
        }
        if (phase == 0) {
            return -3;
        }
        int freed = 0;
        for (int left = budget; left > 0 && phase != 0; left--) {
            if (phase == 1 && !grey.isEmpty()) {
                Cell cell = cells.get(grey.remove());
                for (int target : cell.fields) {
                    shade(target);
                }
                cell.colour = 2;
            } else if (phase == 1) {
                rootScan();
                if (grey.isEmpty()) {
                    phase = 2;
                    for (Cell cell : cells.values()) {
                        if (cell.old) {
                            sweep.add(cell.id);
                        }
                    }
                }
            } else if (!sweep.isEmpty()) {
                int id = sweep.remove();
                if (cells.get(id).colour == 0) {
                    cells.remove(id);
                    remembered.remove(id);
                    freed++;
                }
            } else {
                phase = 0;
                majors++;
            }
        }
        return freed;
    }

    int colour(int object) {
        Cell cell = cells.get(object);
        if (cell == null) {
            return -2;
        }
        return !cell.old || phase == 0 ? -3 : cell.colour;
    }

    int age(int object) {
        return cells.containsKey(object) ? cells.get(object).age : -2;
    }

    int isOld(int object) {
        return cells.containsKey(object) ? cells.get(object).old ? 1 : 0 : -2;
    }

    int reference(int object, int field) {
        Cell cell = cells.get(object);
        return cell == null || field < 0 || field >= cell.fields.length ? -2 : cell.fields[field];
    }

    int element(Collection<Integer> list, int index) {
        if (index < 0) {
            return -2;
        }
        return index < list.size() ? new ArrayList<>(list).get(index) : -5;
    }

    int describe(int object) {
        Cell cell = cells.get(object);
        if (cell == null) {
            return -2;
        }
        List<String> fields = new ArrayList<>();
        for (int target : cell.fields) {
            fields.add(target == -1 ? "-" : String.valueOf(target));
        }
        output = "#" + object + (cell.old ? " old" : " young") + " age=" + cell.age
            + " [" + String.join(",", fields) + "]";
        return output.length();
    }

    int outputByte(int index) {
        if (index < 0) {
            return -2;
        }
        return index < output.length() ? output.charAt(index) : -5;
    }

    int append(int value) {
        if (value < 0 || value > 127) {
            return -2;
        }
        if (text.length() == 150) {
            return -4;
        }
        text.append((char) value);
        return text.length();
    }

    int clearText() {
        int before = text.length();
        text.setLength(0);
        return before;
    }

    int runScript() {
        int wrongAt = ScriptGrammar.wrongAt(text.toString());
        if (wrongAt >= 0) {
            return -10 - wrongAt;
        }
        List<int[]> commands = ScriptGrammar.commands(text.toString());
        for (int k = 0; k < commands.size(); k++) {
            int answer = perform(commands.get(k));
            if (answer <= -2) {
                return -1000 - k;
            }
        }
        return commands.size();
    }

    private int perform(int[] command) {
        switch (command[0]) {
            case 'a':
                return allocate(command[1]);
            case 'r':
                return setRoot(command[1], command[2]);
            case 'w':
                return write(command[1], command[2], command[3]);
            case 'm':
                return minorCollection();
            case 's':
                return startMajor();
            default:
                return stepMajor(command[1]);
        }
    }

    int errorCount(int kind) {
        return kind < 0 || kind > 2 ? -2 : errors[kind];
    }

    int reachableCount() {
        LinkedHashSet<Integer> seen = new LinkedHashSet<>();
        ArrayDeque<Integer> open = new ArrayDeque<>();
        for (int target : roots) {
            open.push(target);
        }
        while (!open.isEmpty()) {
            int id = open.pop();
            if (cells.containsKey(id) && seen.add(id)) {
                for (int target : cells.get(id).fields) {
                    open.push(target);
                }
            }
        }
        return seen.size();
    }

    long digest() {
        List<Integer> values = new ArrayList<>(List.of(errors[0], errors[1], errors[2],
            text.length(), output.length(), roots[0], roots[1], roots[2], roots[3],
            phase, grey.size()));
        values.addAll(List.of(allocated, failures, minors, majors, nursery.size()));
        values.addAll(nursery);
        values.addAll(List.of(words(false), count(true), words(true), remembered.size()));
        values.addAll(remembered);
        for (Cell cell : cells.values()) {
            values.addAll(List.of(cell.id, cell.old ? 1 : 0, cell.age, cell.fields.length));
            for (int target : cell.fields) {
                values.add(target);
            }
            if (cell.old && phase != 0) {
                values.add(cell.colour);
            }
        }
        values.add(reachableCount());
        long hash = 18028;
        for (int value : values) {
            hash = 31 * hash + value;
        }
        return hash;
    }
}
