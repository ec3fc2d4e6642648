/** Promise 2: make. */
public final class Promise02MakeTest extends Sentences {
    public static void main(String[] args) {
        sentence("a new object without items", Promise02MakeTest::withoutItems);
        sentence("root r holds it then", Promise02MakeTest::theRootHoldsIt);
        sentence("and no more what it held: that goes", Promise02MakeTest::whatTheRootHeldGoes);
        sentence("and no more what it held: that stays if it is held elsewhere", Promise02MakeTest::whatIsHeldStays);
        sentence("and no more what it held: a chain of them", Promise02MakeTest::whatItHeldGoesToo);
        sentence("its number", Promise02MakeTest::answersItsNumber);
        sentence("REFUSED for another root", Promise02MakeTest::refusedForAnotherRoot);
        sentence("FULL with 1500: not with 1499", Promise02MakeTest::notFullWith1499);
        sentence("FULL with 1500", Promise02MakeTest::fullWith1500);
        sentence("FULL with 1500, also if what root r holds would go", Promise02MakeTest::fullAlsoIfOneWouldGo);
        sentence("REFUSED for another root, named before FULL", Promise02MakeTest::refusedBeforeFull);
        sentence("FULL with 1500: no more when one went", Promise02MakeTest::notFullWhenOneWent);
        sentence("FULL with 1500: also those that can not be reached", Promise02MakeTest::notFullWhenCollected);
        end();
    }

    private static void withoutItems() {
        Heap x = heapOf(1);
        due(x.items(0), 0);
        due(x.item(0, 0), NO_ITEM);
        due(x.note(0, 5), 1);
        due(x.point(0, 0), 2);
        due(x.make(0), 1);
        due(x.items(1), 0);
        due(x.item(1, 0), NO_ITEM);
    }

    private static void theRootHoldsIt() {
        Heap x = new Heap();
        int[] roots = {15, 0, 8};
        for (int n = 0; n < roots.length; n++) {
            due(x.make(roots[n]), n);
            due(x.held(roots[n]), n);
            due(x.holders(n), 1);
            due(x.count(0), n + 1);
        }
    }

    private static void whatTheRootHeldGoes() {
        Heap x = heapOf(2);
        due(x.make(0), 2);
        due(x.held(0), 2);
        due(x.held(1), 1);
        goneIs(x, 0);
        due(x.count(0), 2);
    }

    private static void whatIsHeldStays() {
        Heap x = heapOf(2);
        due(x.root(2, 0), 2);
        due(x.point(0, 1), 1);
        due(x.make(0), 2);
        due(x.make(1), 3);
        due(x.count(0), 4);
        due(x.holders(0), 1);
        due(x.holders(1), 1);
        due(x.held(2), 0);
    }

    private static void whatItHeldGoesToo() {
        Heap x = heapOf(3);
        due(x.point(0, 1), 1);
        due(x.point(1, 2), 1);
        due(x.root(1, -1), 3);
        due(x.root(2, -1), 3);
        due(x.make(0), 3);
        due(x.count(0), 1);
        goneIs(x, 0);
        goneIs(x, 1);
        goneIs(x, 2);
        due(x.holders(3), 1);
    }

    private static void answersItsNumber() {
        Heap x = new Heap();
        for (int n = 0; n < 100; n++) {
            due(x.make(n % 3), n);
        }
        due(x.held(0), 99);
        due(x.held(1), 97);
        due(x.held(2), 98);
    }

    private static void refusedForAnotherRoot() {
        Heap x = heapOf(1);
        changesNothing(x, () -> {
            for (int r : OTHER_ROOTS) {
                due(x.make(r), REFUSED);
            }
        });
        due(x.make(15), 1);
    }

    private static void notFullWith1499() {
        Heap x = heapOf1500();
        due(x.root(0, -1), 1499);
        due(x.make(4), 1500);
        due(x.count(0), 1500);
        due(x.held(4), 1500);
    }

    private static void fullWith1500() {
        Heap x = heapOf1500();
        changesNothing(x, () -> {
            due(x.make(1), FULL);
            due(x.make(15), FULL);
        });
    }

    private static void fullAlsoIfOneWouldGo() {
        Heap x = heapOf1500();
        due(x.holders(1499), 1);
        changesNothing(x, () -> due(x.make(0), FULL));
        due(x.held(0), 1499);
    }

    private static void refusedBeforeFull() {
        Heap x = heapOf1500();
        for (int r : OTHER_ROOTS) {
            due(x.make(r), REFUSED);
        }
    }

    private static void notFullWhenOneWent() {
        Heap x = heapOf1500();
        due(x.make(0), FULL);
        due(x.take(7, 0), 1499);
        due(x.make(0), 1500);
        due(x.count(0), 1499);
        due(x.make(1), 1501);
        due(x.count(0), 1500);
        due(x.make(2), FULL);
    }

    private static void notFullWhenCollected() {
        Heap x = heapOf1500();
        due(x.make(1), FULL);
        due(x.collect(), 1499);
        due(x.make(1), 1500);
        due(x.count(0), 2);
        due(x.count(1), 1501);
    }
}
