import java.util.ArrayList;
import java.util.List;
import java.util.Map;
import java.util.TreeMap;

/**
 * Long runs of mixed calls against a model that follows the document word by word: it counts holds
 * anew each time, and keeps no count that could go astray. The runs are the same every time.
 */
public final class ModelTest {
    private static final int CALLS = 512;
    private static final int RUNS = 4000;
    private static final int REFUSED = -1, NONE = -2, FULL = -3;
    private static final long THING = 1L << 40, NO_ITEM = 1L << 41;

    /** Items are kept as promise 8 tells them. */
    private static final class Model {
        final Map<Integer, List<Long>> things = new TreeMap<>();
        final int[] roots = new int[16];
        int made = 0;

        Model() {
            for (int r = 0; r < 16; r++) {
                roots[r] = NONE;
            }
        }

        boolean noRoot(int r) {
            return r < 0 || r > 15;
        }

        boolean noItem(int object, int k) {
            return !things.containsKey(object) || k < 0 || k >= things.get(object).size();
        }

        int make(int r) {
            if (noRoot(r)) return REFUSED;
            if (things.size() == 1500) return FULL;
            things.put(made, new ArrayList<>());
            roots[r] = made++;
            goUnheld();
            return made - 1;
        }

        int root(int r, int object) {
            if (noRoot(r)) return REFUSED;
            if (object != -1 && !things.containsKey(object)) return NONE;
            roots[r] = object == -1 ? NONE : object;
            goUnheld();
            return things.size();
        }

        int add(int object, long item) {
            if (!things.containsKey(object)) return NONE;
            if (things.get(object).size() == 300) return FULL;
            things.get(object).add(item);
            return things.get(object).size();
        }

        int point(int object, int item) {
            return things.containsKey(item) ? add(object, THING + item) : NONE;
        }

        int turn(int object, int k, int item) {
            if (noItem(object, k) || !things.containsKey(item)) return NONE;
            things.get(object).set(k, THING + item);
            goUnheld();
            return things.size();
        }

        int take(int object, int k) {
            if (noItem(object, k)) return NONE;
            things.get(object).remove(k);
            goUnheld();
            return things.size();
        }

        long item(int object, int k) {
            return noItem(object, k) ? NO_ITEM : things.get(object).get(k);
        }

        int held(int r) {
            return noRoot(r) ? REFUSED : roots[r];
        }

        int holders(int object) {
            return things.containsKey(object) ? countHolds().get(object) : NONE;
        }

        int items(int object) {
            return things.containsKey(object) ? things.get(object).size() : NONE;
        }

        int count(int what) {
            return what == 0 ? things.size() : what == 1 ? made : REFUSED;
        }

        Map<Integer, Integer> countHolds() {
            Map<Integer, Integer> holds = new TreeMap<>();
            for (int number : things.keySet()) {
                holds.put(number, 0);
            }
            for (int number : roots) {
                if (number != NONE) holds.merge(number, 1, Integer::sum);
            }
            for (List<Long> items : things.values()) {
                for (long item : items) {
                    if (item >= THING) holds.merge((int) (item - THING), 1, Integer::sum);
                }
            }
            return holds;
        }

        void goUnheld() {
            boolean again = true;
            while (again) {
                Map<Integer, Integer> holds = countHolds();
                again = things.keySet().removeIf(number -> holds.get(number) == 0);
            }
        }

        int collect() {
            Map<Integer, Boolean> reached = new TreeMap<>();
            for (int number : roots) {
                if (number != NONE) reached.put(number, true);
            }
            int before = -1;
            while (before != reached.size()) {
                before = reached.size();
                for (int number : new ArrayList<>(reached.keySet())) {
                    for (long item : things.get(number)) {
                        if (item >= THING) reached.put((int) (item - THING), true);
                    }
                }
            }
            int existed = things.size();
            things.keySet().removeIf(number -> !reached.containsKey(number));
            return existed - things.size();
        }
    }

    private static long state = 1;
    private static int wrong = 0;
    private static int gone = 0;
    private static int collected = 0;

    /** A number from 0 to below; the same row of numbers in every run of the test. */
    private static int pick(int below) {
        state = state * 6364136223846793005L + 1442695040888963407L;
        return (int) ((state >>> 33) % below);
    }

    private static int pickRoot(int roots) {
        int n = pick(60);
        return n == 0 ? -1 : n == 1 ? 16 : pick(roots);
    }

    /** Mostly a thing that exists, else any number. */
    private static int pickThing(Model model) {
        if (model.things.isEmpty() || pick(25) == 0) return pick(model.made + 4) - 2;
        return new ArrayList<>(model.things.keySet()).get(pick(model.things.size()));
    }

    private static int pickPlace(Model model, int object) {
        int size = Math.max(0, model.items(object));
        return size == 0 || pick(20) == 0 ? pick(size + 3) - 1 : pick(size);
    }

    public static void main(String[] args) {
        for (int run = 0; run < RUNS && wrong < 20; run++) {
            state = run;
            // Few roots and rare makes give dense knots; many of both give wide, loose heaps.
            play(run, 1 + pick(16), 4 + pick(30));
        }
        if (gone == 0 || collected == 0) {
            wrong++;
            System.out.println("the runs did not let things go and collect them");
        }
        System.out.println(wrong == 0 ? "all runs answer as the model" : wrong + " answers differ from the model");
        if (wrong != 0) System.exit(1);
    }

    private static void play(int run, int roots, int makes) {
        ThingHeap x = new ThingHeap();
        Model model = new Model();
        int quiet = pick(8);
        for (int call = 0; call < CALLS; call++) {
            int kind = pick(100);
            int existed = model.things.size();
            if (kind < makes) {
                int r = pickRoot(roots);
                due(run, call, "make(" + r + ")", x.make(r), model.make(r));
            } else if (kind < 70) {
                change(run, call, x, model, roots);
            } else if (kind < 71 + quiet) {
                int went = model.collect();
                collected += went;
                due(run, call, "collect()", x.collect(), went);
            } else {
                ask(run, call, x, model, roots);
            }
            if (model.things.size() < existed) gone++;
        }
    }

    private static void change(int run, int call, ThingHeap x, Model model, int roots) {
        int a = pickThing(model);
        int b = pickThing(model);
        int k = pickPlace(model, a);
        int r = pickRoot(roots);
        switch (pick(8)) {
            case 0:
                int to = pick(2) == 0 ? -1 : a;
                due(run, call, "root(" + r + ", " + to + ")", x.root(r, to), model.root(r, to));
                break;
            case 1: case 2: case 3:
                due(run, call, "point(" + a + ", " + b + ")", x.point(a, b), model.point(a, b));
                break;
            case 4:
                due(run, call, "note(" + a + ", " + b + ")", x.note(a, b), model.add(a, b));
                break;
            case 5: case 6:
                due(run, call, "turn(" + a + ", " + k + ", " + b + ")", x.turn(a, k, b), model.turn(a, k, b));
                break;
            default:
                due(run, call, "take(" + a + ", " + k + ")", x.take(a, k), model.take(a, k));
        }
    }

    private static void ask(int run, int call, ThingHeap x, Model model, int roots) {
        int a = pickThing(model);
        int k = pickPlace(model, a);
        int r = pickRoot(roots);
        switch (pick(6)) {
            case 0:
                due(run, call, "held(" + r + ")", x.held(r), model.held(r));
                break;
            case 1: case 2:
                due(run, call, "holders(" + a + ")", x.holders(a), model.holders(a));
                break;
            case 3:
                due(run, call, "items(" + a + ")", x.items(a), model.items(a));
                break;
            case 4:
                due(run, call, "item(" + a + ", " + k + ")", x.item(a, k), model.item(a, k));
                break;
            default:
                int what = pick(4) - 1;
                due(run, call, "count(" + what + ")", x.count(what), model.count(what));
        }
    }

    private static void due(int run, int call, String text, long got, long want) {
        if (got != want) {
            wrong++;
            System.out.println("run " + run + ", call " + call + ": " + text + " answered " + got + ", due is " + want);
        }
    }
}
