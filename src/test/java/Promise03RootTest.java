/** Promise 3: root. */
public final class Promise03RootTest extends Sentences {
    public static void main(String[] args) {
        sentence("root r holds an object then", Promise03RootTest::theRootHoldsIt);
        sentence("root r holds an object: the one that it holds", Promise03RootTest::theOneThatItHolds);
        sentence("root r holds an object: one that only what it held holds", Promise03RootTest::oneBelowWhatItHeld);
        sentence("root r holds an object: one that no root reaches", Promise03RootTest::oneThatIsNotReached);
        sentence("or (-1) nothing", Promise03RootTest::orNothing);
        sentence("or (-1) nothing: where it holds nothing", Promise03RootTest::nothingForNothing);
        sentence("how many objects exist: after those that go", Promise03RootTest::answersHowManyExist);
        sentence("REFUSED for another root", Promise03RootTest::refusedForAnotherRoot);
        sentence("REFUSED for another root: to hold nothing, too", Promise03RootTest::refusedForNothingToo);
        sentence("REFUSED for another root, named before NONE", Promise03RootTest::refusedBeforeNone);
        sentence("NONE if there is no such object: a number that was not made", Promise03RootTest::noneForNoNumber);
        sentence("NONE if there is no such object: one that went", Promise03RootTest::noneForOneThatWent);
        end();
    }

    private static void theRootHoldsIt() {
        Heap x = heapOf(2);
        due(x.root(15, 0), 2);
        due(x.held(15), 0);
        due(x.held(0), 0);
        due(x.holders(0), 2);
        due(x.root(15, 1), 2);
        due(x.held(15), 1);
        due(x.holders(0), 1);
        due(x.holders(1), 2);
    }

    private static void theOneThatItHolds() {
        Heap x = heapOf(2);
        due(x.note(0, 5), 1);
        due(x.point(0, 1), 2);
        due(x.root(1, -1), 2);
        changesNothing(x, () -> due(x.root(0, 0), 2));
        due(x.holders(0), 1);
    }

    private static void oneBelowWhatItHeld() {
        Heap x = heapOf(3);
        due(x.point(0, 1), 1);
        due(x.point(1, 2), 1);
        due(x.root(1, -1), 3);
        due(x.root(2, -1), 3);
        due(x.root(0, 2), 1);
        due(x.held(0), 2);
        due(x.holders(2), 1);
        goneIs(x, 0);
        goneIs(x, 1);
    }

    private static void oneThatIsNotReached() {
        Heap x = heapOf(2);
        due(x.point(0, 1), 1);
        due(x.point(1, 0), 1);
        due(x.root(0, -1), 2);
        due(x.root(1, -1), 2);
        due(x.root(9, 1), 2);
        due(x.held(9), 1);
        due(x.collect(), 0);
        due(x.holders(1), 2);
    }

    private static void orNothing() {
        Heap x = heapOf(16);
        due(x.root(15, -1), 15);
        due(x.held(15), NONE);
        goneIs(x, 15);
        due(x.root(0, -1), 14);
        due(x.held(0), NONE);
        goneIs(x, 0);
        due(x.held(1), 1);
    }

    private static void nothingForNothing() {
        Heap x = heapOf(1);
        changesNothing(x, () -> {
            due(x.root(1, -1), 1);
            due(x.root(15, -1), 1);
        });
        due(x.root(0, -1), 0);
        due(x.root(0, -1), 0);
        due(x.held(0), NONE);
    }

    private static void answersHowManyExist() {
        Heap x = heapOf(5);
        due(x.point(0, 1), 1);
        due(x.point(1, 2), 1);
        due(x.root(1, -1), 5);
        due(x.root(2, -1), 5);
        due(x.root(0, 3), 2);
        due(x.count(0), 2);
        due(x.root(4, 3), 1);
        due(x.root(0, -1), 1);
        due(x.root(3, -1), 1);
        due(x.root(4, -1), 0);
        due(x.count(0), 0);
    }

    private static void refusedForAnotherRoot() {
        Heap x = heapOf(2);
        changesNothing(x, () -> {
            for (int r : OTHER_ROOTS) {
                due(x.root(r, 0), REFUSED);
            }
        });
    }

    private static void refusedForNothingToo() {
        Heap x = heapOf(16);
        changesNothing(x, () -> {
            for (int r : OTHER_ROOTS) {
                due(x.root(r, -1), REFUSED);
            }
        });
    }

    private static void refusedBeforeNone() {
        Heap x = heapOf(1);
        changesNothing(x, () -> {
            for (int r : OTHER_ROOTS) {
                due(x.root(r, 1), REFUSED);
                due(x.root(r, -2), REFUSED);
            }
        });
    }

    private static void noneForNoNumber() {
        Heap x = heapOf(2);
        changesNothing(x, () -> {
            due(x.root(0, 2), NONE);
            due(x.root(2, 2), NONE);
            for (int object : NO_NUMBERS) {
                due(x.root(0, object), NONE);
                due(x.root(15, object), NONE);
            }
        });
    }

    private static void noneForOneThatWent() {
        Heap x = heapOf(3);
        due(x.root(1, -1), 2);
        changesNothing(x, () -> {
            due(x.root(0, 1), NONE);
            due(x.root(1, 1), NONE);
        });
    }
}
