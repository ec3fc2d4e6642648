import java.util.ArrayList;

/**
 * Objects that hold each other and are held by roots: they go as soon as nothing holds them,
 * and those that only hold each other when they are collected.
 *
 * <p>The document's objects are called things here, to tell them from Java's.
 */
public final class ThingHeap {
    public static final int REFUSED = -1, NONE = -2, FULL = -3;

    private static final int ROOTS = 16;
    private static final int MOST_THINGS = 1500;
    private static final int MOST_ITEMS = 300;
    private static final int NOTHING = -1;
    private static final long THING_ITEM = 1L << 40;
    private static final long NO_ITEM = 1L << 41;

    /** A numbered object, with what it holds and how often it is held itself. */
    private static final class Thing {
        final int number;
        final ArrayList<Item> row = new ArrayList<>();
        int timesHeld = 0;
        boolean reached = false;

        Thing(int number) {
            this.number = number;
        }

        boolean hasItem(int k) {
            return k >= 0 && k < row.size();
        }
    }

    /** What stands at one place of a thing: another thing or, where that is null, an int. */
    private static final class Item {
        final Thing thing;
        final int value;

        Item(Thing thing, int value) {
            this.thing = thing;
            this.value = value;
        }
    }

    private final Thing[] roots;
    /** The things that exist. They stand in the order of their numbers, which find relies on. */
    private final ArrayList<Thing> things;
    /** Things that have lost their last hold and are still to go; empty between calls. */
    private final ArrayList<Thing> unheld;
    /** Things that a collection has reached so far; empty between calls. */
    private final ArrayList<Thing> reachedSoFar;
    private int made;

    public ThingHeap() {
        roots = new Thing[ROOTS];
        things = new ArrayList<>();
        unheld = new ArrayList<>();
        reachedSoFar = new ArrayList<>();
        made = 0;
    }

    public int make(int r) {
        if (!isRoot(r)) {
            return REFUSED;
        }
        if (things.size() >= MOST_THINGS) {
            return FULL;
        }
        Thing thing = new Thing(made);
        made++;
        things.add(thing);
        setRoot(r, thing);
        return thing.number;
    }

    public int root(int r, int object) {
        if (!isRoot(r)) {
            return REFUSED;
        }
        Thing thing = find(object);
        if (thing == null && object != NOTHING) {
            return NONE;
        }
        setRoot(r, thing);
        return things.size();
    }

    public int point(int object, int item) {
        Thing owner = find(object);
        Thing thing = find(item);
        if (owner == null || thing == null) {
            return NONE;
        }
        return append(owner, thing, 0);
    }

    public int note(int object, int value) {
        Thing owner = find(object);
        if (owner == null) {
            return NONE;
        }
        return append(owner, null, value);
    }

    public int turn(int object, int k, int item) {
        Thing owner = find(object);
        Thing thing = find(item);
        if (owner == null || thing == null || !owner.hasItem(k)) {
            return NONE;
        }
        Thing before = owner.row.get(k).thing;
        hold(thing);
        owner.row.set(k, new Item(thing, 0));
        release(before);
        return things.size();
    }

    public int take(int object, int k) {
        Thing owner = find(object);
        if (owner == null || !owner.hasItem(k)) {
            return NONE;
        }
        Thing before = owner.row.get(k).thing;
        owner.row.remove(k);
        release(before);
        return things.size();
    }

    public long item(int object, int k) {
        Thing owner = find(object);
        if (owner == null || !owner.hasItem(k)) {
            return NO_ITEM;
        }
        Item found = owner.row.get(k);
        return found.thing == null ? found.value : THING_ITEM + found.thing.number;
    }

    public int held(int r) {
        if (!isRoot(r)) {
            return REFUSED;
        }
        Thing thing = roots[r];
        return thing == null ? NONE : thing.number;
    }

    public int holders(int object) {
        Thing thing = find(object);
        return thing == null ? NONE : thing.timesHeld;
    }

    public int items(int object) {
        Thing thing = find(object);
        return thing == null ? NONE : thing.row.size();
    }

    public int collect() {
        int before = things.size();
        markReached();
        for (int i = 0; i < before; i++) {
            Thing thing = things.get(i);
            if (!thing.reached) {
                dropItems(thing);
            }
        }
        // Only unreached things held an unreached one, so none of them is held by now.
        removeUnheld();
        return before - things.size();
    }

    public int count(int what) {
        switch (what) {
            case 0:
                return things.size();
            case 1:
                return made;
            default:
                return REFUSED;
        }
    }

    private static boolean isRoot(int r) {
        return r >= 0 && r < ROOTS;
    }

    /** The thing of that number, or null; each round at least halves what lies from low to high. */
    private Thing find(int number) {
        int low = 0;
        int high = things.size() - 1;
        while (low <= high) {
            int middle = (low + high) / 2;
            Thing thing = things.get(middle);
            if (thing.number == number) {
                return thing;
            }
            if (thing.number < number) {
                low = middle + 1;
            } else {
                high = middle - 1;
            }
        }
        return null;
    }

    /** The new thing is held before the old one is released: they may be the same. */
    private void setRoot(int r, Thing thing) {
        Thing before = roots[r];
        hold(thing);
        roots[r] = thing;
        release(before);
    }

    private int append(Thing owner, Thing thing, int value) {
        if (owner.row.size() >= MOST_ITEMS) {
            return FULL;
        }
        hold(thing);
        owner.row.add(new Item(thing, value));
        return owner.row.size();
    }

    private static void hold(Thing thing) {
        if (thing != null) {
            thing.timesHeld++;
        }
    }

    private void release(Thing thing) {
        loseHold(thing);
        removeUnheld();
    }

    private void loseHold(Thing thing) {
        if (thing == null) {
            return;
        }
        thing.timesHeld--;
        if (thing.timesHeld == 0) {
            unheld.add(thing);
        }
    }

    private void dropItems(Thing owner) {
        for (int k = 0; k < owner.row.size(); k++) {
            loseHold(owner.row.get(k).thing);
        }
        owner.row.clear();
    }

    /** Works through a list, not by recursion: things may hold each other in a chain of any length. */
    private void removeUnheld() {
        // A thing loses its last hold once, so the list never outgrows the things.
        int most = things.size();
        for (int i = 0; i < unheld.size() && i < most; i++) {
            dropItems(unheld.get(i));
        }
        if (!unheld.isEmpty()) {
            keepHeld();
            unheld.clear();
        }
    }

    /** Closes the gaps in one pass, so that the order of the numbers stays. */
    private void keepHeld() {
        int before = things.size();
        int kept = 0;
        for (int i = 0; i < before; i++) {
            Thing thing = things.get(i);
            if (thing.timesHeld > 0) {
                things.set(kept, thing);
                kept++;
            }
        }
        for (int last = before - 1; last >= kept; last--) {
            things.remove(last);
        }
    }

    private void markReached() {
        int most = things.size();
        for (int i = 0; i < most; i++) {
            things.get(i).reached = false;
        }
        for (int r = 0; r < ROOTS; r++) {
            reach(roots[r]);
        }
        // A thing is reached once, so the list never outgrows the things.
        for (int i = 0; i < reachedSoFar.size() && i < most; i++) {
            reachItems(reachedSoFar.get(i));
        }
        reachedSoFar.clear();
    }

    private void reachItems(Thing owner) {
        for (int k = 0; k < owner.row.size(); k++) {
            reach(owner.row.get(k).thing);
        }
    }

    private void reach(Thing thing) {
        if (thing != null && !thing.reached) {
            thing.reached = true;
            reachedSoFar.add(thing);
        }
    }
}
