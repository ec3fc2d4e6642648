import java.util.ArrayList;

/**
 * What the tests of the promises share. Each of them tests one sentence, or half-sentence, of the
 * document after the other; a sentence that does not hold is told by its words.
 */
abstract class Sentences {
    static final int REFUSED = -1, NONE = -2, FULL = -3;
    static final long THING = 1L << 40, NO_ITEM = 1L << 41;
    static final int LOW = Integer.MIN_VALUE, HIGH = Integer.MAX_VALUE;

    static final int[] OTHER_ROOTS = {-1, 16, -2, 17, -16, 32, 256, 65536, LOW, HIGH};
    /** Numbers that no thing of the tests bears; -1 is left out, as root gives it a meaning. */
    static final int[] NO_NUMBERS = {-2, -3, 1499, 1500, 65536, LOW, LOW + 1, HIGH};
    static final int[] BELOW_0 = {-1, -2, -300, LOW, LOW + 1};
    static final int[] BEHIND_TWO_ITEMS = {2, 3, 299, 300, 65536, 1 << 30, HIGH};

    private static final int PROMISED_CALLS = 512;

    private static final ArrayList<Heap> heaps = new ArrayList<>();
    private static String words = "";
    private static String lastCall = "";
    private static int tested = 0;
    private static int wrong = 0;

    /** A ThingHeap that counts its calls: what it answers after the promised ones is free. */
    static final class Heap {
        private final ThingHeap heap = new ThingHeap();
        private int calls = 0;
        private boolean mayGoOn = false;

        Heap() {
            heaps.add(this);
        }

        /** For 1500 things, which need more calls than are promised; the class keeps the limit all the same. */
        Heap beyondThePromisedCalls() {
            mayGoOn = true;
            return this;
        }

        private void called(String call) {
            calls++;
            lastCall = call;
        }

        int make(int r) {
            called("make(" + r + ")");
            return heap.make(r);
        }

        int root(int r, int object) {
            called("root(" + r + ", " + object + ")");
            return heap.root(r, object);
        }

        int point(int object, int item) {
            called("point(" + object + ", " + item + ")");
            return heap.point(object, item);
        }

        int note(int object, int value) {
            called("note(" + object + ", " + value + ")");
            return heap.note(object, value);
        }

        int turn(int object, int k, int item) {
            called("turn(" + object + ", " + k + ", " + item + ")");
            return heap.turn(object, k, item);
        }

        int take(int object, int k) {
            called("take(" + object + ", " + k + ")");
            return heap.take(object, k);
        }

        long item(int object, int k) {
            called("item(" + object + ", " + k + ")");
            return heap.item(object, k);
        }

        int held(int r) {
            called("held(" + r + ")");
            return heap.held(r);
        }

        int holders(int object) {
            called("holders(" + object + ")");
            return heap.holders(object);
        }

        int items(int object) {
            called("items(" + object + ")");
            return heap.items(object);
        }

        int collect() {
            called("collect()");
            return heap.collect();
        }

        int count(int what) {
            called("count(" + what + ")");
            return heap.count(what);
        }

        /** All that can be seen of the heap; of a long row the ends and the middle, to stay in the calls. */
        String picture() {
            int made = count(1);
            StringBuilder all = new StringBuilder();
            all.append(count(0)).append(" of ").append(made).append(", roots");
            for (int r = 0; r < 16; r++) {
                all.append(' ').append(held(r));
            }
            for (int n = 0; n <= made; n++) {
                all.append("; ").append(n).append(" held ").append(holders(n)).append(" has");
                int size = items(n);
                for (int k = 0; k <= size; k++) {
                    if (size <= 10 || k < 2 || k == size / 2 || k > size - 2) {
                        all.append(' ').append(item(n, k));
                    }
                }
            }
            return all.toString();
        }
    }

    /** A heap whose things 0 to n - 1 are held by the roots of the same numbers. */
    static Heap heapOf(int n) {
        Heap x = new Heap();
        for (int r = 0; r < n; r++) {
            due(x.make(r), r);
        }
        return x;
    }

    /** A heap of one thing, held by root 0, with that many ints: 1, 2, 3 and so on. */
    static Heap heapOfInts(int size) {
        Heap x = heapOf(1);
        for (int n = 1; n <= size; n++) {
            due(x.note(0, n), n);
        }
        return x;
    }

    /** A chain in which each thing holds the one made before it; only root (length - 1) % 2 holds the last. */
    static Heap chainOf(int length) {
        Heap x = new Heap();
        due(x.make(0), 0);
        for (int n = 1; n < length; n++) {
            due(x.make(n % 2), n);
            due(x.point(n, n - 1), 1);
        }
        due(x.root(length % 2, -1), length);
        return x;
    }

    /** 1500 things, each but the last held by itself alone; root 0 alone holds the last, 1499. */
    static Heap heapOf1500() {
        Heap x = new Heap().beyondThePromisedCalls();
        for (int n = 0; n < 1499; n++) {
            due(x.make(0), n);
            due(x.point(n, n), 1);
        }
        due(x.make(0), 1499);
        due(x.count(0), 1500);
        return x;
    }

    static void due(long got, long want) {
        if (got != want) {
            tell(lastCall + " answered " + got + ", due is " + want);
        }
    }

    static void changesNothing(Heap x, Runnable calls) {
        String before = x.picture();
        calls.run();
        String after = x.picture();
        if (!before.equals(after)) {
            tell("nothing may change\n    before: " + before + "\n    after:  " + after);
        }
    }

    static void goneIs(Heap x, int object) {
        due(x.holders(object), NONE);
        due(x.items(object), NONE);
        due(x.item(object, 0), NO_ITEM);
    }

    private static void tell(String fault) {
        wrong++;
        System.out.println("\"" + words + "\": " + fault);
    }

    static void sentence(String theWords, Runnable test) {
        words = theWords;
        tested++;
        heaps.clear();
        try {
            test.run();
        } catch (RuntimeException | StackOverflowError thrown) {
            tell(lastCall + " threw " + thrown);
        }
        for (Heap x : heaps) {
            if (x.calls > PROMISED_CALLS && !x.mayGoOn) {
                tell("the test makes " + x.calls + " calls of one heap, more than are promised");
            }
        }
    }

    static void end() {
        System.out.println(tested + " sentences tested, " + wrong + " answers not as due");
        if (wrong != 0) {
            System.exit(1);
        }
    }
}
