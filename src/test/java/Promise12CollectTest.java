/** Promise 12: collect. */
public final class Promise12CollectTest extends Sentences {
    public static void main(String[] args) {
        sentence("how many: 0 if no object exists", Promise12CollectTest::noObjects);
        sentence("how many: 0 if all can be reached, and nothing changes", Promise12CollectTest::allReached);
        sentence("how many: 0 if it all went at once before", Promise12CollectTest::allWentBefore);
        sentence("how many: 0 the second time", Promise12CollectTest::theSecondTime);
        sentence("what can not be reached goes: one that holds itself", Promise12CollectTest::oneThatHoldsItself);
        sentence("what can not be reached goes: two that hold each other", Promise12CollectTest::twoThatHoldEachOther);
        sentence("what can not be reached goes: a ring of 240", Promise12CollectTest::aLongRing);
        sentence("what can not be reached goes: what only those hold", Promise12CollectTest::whatOnlyThoseHold);
        sentence("what can not be reached goes: if it holds what can", Promise12CollectTest::holdersOfWhatStays);
        sentence("what can be reached stays: rings too", Promise12CollectTest::reachedRingsStay);
        sentence("what can be reached stays: by the roots of now", Promise12CollectTest::byTheRootsOfNow);
        sentence("what can be reached stays: made by turn and take", Promise12CollectTest::byTheItemsOfNow);
        sentence("what goes holds nothing then", Promise12CollectTest::holdsNothingThen);
        sentence("how many: 1499 of 1500", Promise12CollectTest::of1500);
        sentence("after it, roots and numbers go on", Promise12CollectTest::allGoesOnAfterIt);
        end();
    }

    private static void noObjects() {
        Heap x = new Heap();
        changesNothing(x, () -> due(x.collect(), 0));
    }

    private static void allReached() {
        Heap x = heapOf(16);
        due(x.point(3, 4), 1);
        due(x.note(3, 5), 2);
        due(x.root(4, -1), 16);
        changesNothing(x, () -> due(x.collect(), 0));
    }

    private static void allWentBefore() {
        Heap x = heapOf(3);
        due(x.point(0, 1), 1);
        due(x.point(1, 2), 1);
        due(x.root(2, -1), 3);
        due(x.root(1, -1), 3);
        due(x.root(0, -1), 0);
        due(x.collect(), 0);
        due(x.count(0), 0);
    }

    private static void theSecondTime() {
        Heap x = heapOf(2);
        due(x.point(0, 0), 1);
        due(x.root(0, -1), 2);
        due(x.collect(), 1);
        changesNothing(x, () -> due(x.collect(), 0));
    }

    private static void oneThatHoldsItself() {
        Heap x = heapOf(2);
        due(x.point(0, 0), 1);
        due(x.note(0, 1), 2);
        due(x.point(0, 0), 3);
        due(x.root(0, -1), 2);
        due(x.collect(), 1);
        goneIs(x, 0);
        due(x.count(0), 1);
        due(x.holders(1), 1);
    }

    private static void twoThatHoldEachOther() {
        Heap x = heapOf(2);
        due(x.point(0, 1), 1);
        due(x.point(1, 0), 1);
        due(x.root(0, -1), 2);
        due(x.collect(), 0);
        due(x.root(1, -1), 2);
        due(x.collect(), 2);
        goneIs(x, 0);
        goneIs(x, 1);
        due(x.count(0), 0);
    }

    private static void aLongRing() {
        Heap x = chainOf(240);
        due(x.point(0, 239), 1);
        due(x.root(1, -1), 240);
        due(x.count(0), 240);
        due(x.collect(), 240);
        due(x.count(0), 0);
        goneIs(x, 0);
        goneIs(x, 120);
        goneIs(x, 239);
    }

    private static void whatOnlyThoseHold() {
        Heap x = heapOf(4);
        due(x.point(0, 0), 1);
        due(x.point(0, 1), 2);
        due(x.point(1, 2), 1);
        due(x.point(1, 2), 2);
        for (int r = 0; r < 3; r++) {
            due(x.root(r, -1), 4);
        }
        due(x.collect(), 3);
        due(x.count(0), 1);
        goneIs(x, 1);
        goneIs(x, 2);
        due(x.held(3), 3);
    }

    private static void holdersOfWhatStays() {
        Heap x = heapOf(3);
        due(x.point(0, 1), 1);
        due(x.point(1, 0), 1);
        due(x.point(0, 2), 2);
        due(x.point(1, 2), 2);
        due(x.point(1, 2), 3);
        due(x.root(0, -1), 3);
        due(x.root(1, -1), 3);
        due(x.holders(2), 4);
        due(x.collect(), 2);
        due(x.holders(2), 1);
        due(x.root(2, -1), 0);
    }

    private static void reachedRingsStay() {
        Heap x = heapOf(5);
        due(x.point(0, 1), 1);
        due(x.note(1, 4), 1);
        due(x.point(1, 2), 2);
        due(x.point(2, 0), 1);
        due(x.point(3, 4), 1);
        due(x.point(4, 3), 1);
        for (int r = 0; r < 5; r++) {
            due(x.root(r, -1), 5);
        }
        due(x.root(15, 1), 5);
        due(x.collect(), 2);
        due(x.item(0, 0), THING + 1);
        due(x.item(1, 0), 4);
        due(x.item(1, 1), THING + 2);
        due(x.item(2, 0), THING);
        due(x.holders(1), 2);
        goneIs(x, 3);
        goneIs(x, 4);
    }

    private static void byTheRootsOfNow() {
        Heap x = heapOf(1);
        due(x.point(0, 0), 1);
        due(x.collect(), 0);
        due(x.root(0, -1), 1);
        due(x.root(9, 0), 1);
        due(x.collect(), 0);
        due(x.make(9), 1);
        due(x.count(0), 2);
        due(x.collect(), 1);
        goneIs(x, 0);
        due(x.held(9), 1);
    }

    private static void byTheItemsOfNow() {
        Heap x = heapOf(3);
        due(x.point(1, 1), 1);
        due(x.point(2, 2), 1);
        due(x.point(0, 1), 1);
        due(x.root(1, -1), 3);
        due(x.collect(), 0);
        due(x.turn(0, 0, 2), 3);
        due(x.root(2, -1), 3);
        due(x.collect(), 1);
        goneIs(x, 1);
        due(x.take(0, 0), 2);
        due(x.collect(), 1);
        goneIs(x, 2);
        due(x.count(0), 1);
    }

    private static void holdsNothingThen() {
        Heap x = heapOf(3);
        due(x.point(0, 0), 1);
        due(x.point(0, 1), 2);
        due(x.point(1, 2), 1);
        due(x.root(0, -1), 3);
        due(x.root(2, -1), 3);
        due(x.collect(), 1);
        due(x.holders(1), 1);
        due(x.holders(2), 1);
        due(x.root(1, -1), 0);
        goneIs(x, 1);
        goneIs(x, 2);
    }

    private static void of1500() {
        Heap x = heapOf1500();
        due(x.collect(), 1499);
        due(x.count(0), 1);
        due(x.held(0), 1499);
        due(x.holders(1499), 1);
        goneIs(x, 0);
        goneIs(x, 1498);
    }

    private static void allGoesOnAfterIt() {
        Heap x = heapOf(3);
        due(x.point(1, 1), 1);
        due(x.root(1, -1), 3);
        due(x.collect(), 1);
        due(x.held(0), 0);
        due(x.held(1), NONE);
        due(x.held(2), 2);
        due(x.count(1), 3);
        due(x.make(1), 3);
        due(x.items(3), 0);
        due(x.point(3, 2), 1);
        due(x.root(2, -1), 3);
        due(x.collect(), 0);
        due(x.item(3, 0), THING + 2);
    }
}
