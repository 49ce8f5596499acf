import java.lang.reflect.InvocationTargetException;
import java.lang.reflect.Method;
import java.lang.reflect.Modifier;
import java.util.ArrayList;
import java.util.Comparator;
import java.util.List;
import java.util.Random;

/**
 * No call throws or fails to end, whatever its arguments, in whatever state: also far
 * behind the 512th call, where the answers themselves are free (LANGUAGE.md, rule 7).
 */
public final class WildTest {
    private static final int HEAPS = 100;
    private static final int CALLS = 6000;
    private static final int[] UTMOST = {
        Integer.MIN_VALUE, Integer.MIN_VALUE + 1, -1000, -6, -5, -4, -3, -2, -1, 5, 63, 64, 65, 98,
        99, 100, 101, 127, 128, 129, 149, 150, 151, 199, 200, 201, 399, 400, 401,
        Integer.MAX_VALUE - 1, Integer.MAX_VALUE};
    private static final String SIGNS = "alloc 1;root 0 0;write 0 0 -;minor;start;step 3; ";
    private static final Due due = new Due("WildTest");

    private final List<Method> methods;
    private final Random random;
    private final GenerationalHeap heap = new GenerationalHeap();

    private WildTest(List<Method> methods, long seed) {
        this.methods = methods;
        this.random = new Random(seed);
    }

    public static void main(String[] args) throws IllegalAccessException {
        List<Method> methods = new ArrayList<>();
        for (Method method : GenerationalHeap.class.getDeclaredMethods()) {
            if (Modifier.isPublic(method.getModifiers())) {
                methods.add(method);
            }
        }
        // The machine tells them in no fixed order, and the runs are to be the same.
        methods.sort(Comparator.comparing(Method::getName));
        for (int seed = 0; seed < HEAPS && !due.isWrong(); seed++) {
            new WildTest(methods, seed).run(seed);
        }
        due.end();
    }

    private void run(int seed) throws IllegalAccessException {
        for (int k = 0; k < CALLS && !due.isWrong(); k++) {
            Method method = methods.get(random.nextInt(methods.size()));
            // Rarely, or no heap would ever be more than a few calls old.
            if (!method.getName().equals("reset") || random.nextInt(20) == 0) {
                make(method, "seed " + seed + ", call " + k + ": ");
            }
            grow();
            if (random.nextInt(30) == 0) {
                script();
            }
            if (random.nextInt(300) == 0) {
                heap.reset(64, random.nextBoolean() ? 16 : 128, 1 + random.nextInt(2));
            }
            due.holds("seed " + seed + ", call " + k + ": out of bounds", withinBounds());
        }
    }

    /** Mostly fails or changes little by itself, but fills both generations in the long run. */
    private void grow() {
        int id = heap.allocate(random.nextInt(5));
        heap.setRoot(random.nextInt(4), random.nextInt(9) == 0 ? GenerationalHeap.NULL : id);
        heap.write(likelyId(), random.nextInt(4), likelyId());
        if (random.nextInt(12) == 0) {
            heap.minorCollection();
        }
    }

    private int likelyId() {
        int young = heap.youngObject(random.nextInt(heap.youngCount() + 1));
        return random.nextBoolean() ? young : random.nextInt(100);
    }

    private void make(Method method, String place) throws IllegalAccessException {
        Object[] values = new Object[method.getParameterCount()];
        StringBuilder line = new StringBuilder(place).append(method.getName());
        for (int k = 0; k < values.length; k++) {
            values[k] = number();
            line.append(' ').append(values[k]);
        }
        try {
            method.invoke(heap, values);
        } catch (InvocationTargetException fault) {
            due.tell(line + " threw " + fault.getCause());
        }
    }

    private int number() {
        switch (random.nextInt(4)) {
            case 0:
                return UTMOST[random.nextInt(UTMOST.length)];
            case 1:
                return likelyId();
            default:
                return random.nextInt(5);
        }
    }

    /** Pieces of a good script, or one that is good until the full buffer cuts it off. */
    private void script() {
        heap.clearText();
        if (random.nextBoolean()) {
            type(" ".repeat(random.nextInt(50)) + SIGNS.repeat(4));
        } else {
            for (int piece = random.nextInt(6); piece > 0; piece--) {
                int from = random.nextInt(SIGNS.length());
                type(SIGNS.substring(from, from + random.nextInt(SIGNS.length() - from)));
            }
        }
        heap.runScript();
    }

    private void type(String text) {
        for (int k = 0; k < text.length(); k++) {
            heap.append(text.charAt(k));
        }
    }

    private boolean withinBounds() {
        int objects = heap.youngCount() + heap.oldCount();
        return heap.youngWords() >= heap.youngCount() && heap.youngWords() <= 64
            && heap.oldWords() >= heap.oldCount() && heap.oldWords() <= 128
            && objects <= 100 && heap.reachableCount() <= objects
            && heap.rememberedCount() <= heap.oldCount() && heap.greyCount() <= heap.oldCount()
            && (heap.phase() == GenerationalHeap.MARKING || heap.greyCount() == 0);
    }
}
