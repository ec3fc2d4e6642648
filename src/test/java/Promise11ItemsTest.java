/** Promise 11: items. */
public final class Promise11ItemsTest extends Sentences {
    public static void main(String[] args) {
        sentence("how many items an object has: none at first", Promise11ItemsTest::noneAtFirst);
        sentence("how many items an object has: ints and objects alike", Promise11ItemsTest::intsAndObjects);
        sentence("how many items an object has: 300 and no more", Promise11ItemsTest::no301);
        sentence("how many items an object has: none again", Promise11ItemsTest::noneAgain);
        sentence("NONE if it does not exist: a number that was not made", Promise11ItemsTest::noneForNoNumber);
        sentence("NONE if it does not exist: one that went", Promise11ItemsTest::noneForOneThatWent);
        sentence("NONE if it does not exist: one that was collected", Promise11ItemsTest::noneForACollectedOne);
        end();
    }

    private static void noneAtFirst() {
        Heap x = heapOf(2);
        due(x.items(0), 0);
        due(x.items(1), 0);
    }

    private static void intsAndObjects() {
        Heap x = heapOf(2);
        due(x.note(0, 1), 1);
        due(x.items(0), 1);
        due(x.point(0, 1), 2);
        due(x.point(0, 0), 3);
        due(x.items(0), 3);
        due(x.turn(0, 0, 1), 2);
        changesNothing(x, () -> due(x.items(0), 3));
        due(x.take(0, 1), 2);
        due(x.items(0), 2);
        due(x.items(1), 0);
    }

    private static void no301() {
        Heap x = heapOfInts(300);
        due(x.items(0), 300);
        due(x.note(0, 1), FULL);
        due(x.point(0, 0), FULL);
        due(x.items(0), 300);
    }

    private static void noneAgain() {
        Heap x = heapOfInts(2);
        due(x.take(0, 0), 1);
        due(x.items(0), 1);
        due(x.take(0, 0), 1);
        due(x.items(0), 0);
        due(x.take(0, 0), NONE);
        due(x.items(0), 0);
    }

    private static void noneForNoNumber() {
        Heap x = heapOf(2);
        changesNothing(x, () -> {
            due(x.items(2), NONE);
            due(x.items(-1), NONE);
            for (int object : NO_NUMBERS) {
                due(x.items(object), NONE);
            }
        });
    }

    private static void noneForOneThatWent() {
        Heap x = heapOf(3);
        due(x.note(1, 5), 1);
        due(x.root(1, -1), 2);
        due(x.items(1), NONE);
        due(x.items(0), 0);
        due(x.items(2), 0);
    }

    private static void noneForACollectedOne() {
        Heap x = heapOf(2);
        due(x.point(0, 0), 1);
        due(x.root(0, -1), 2);
        due(x.items(0), 1);
        due(x.collect(), 1);
        due(x.items(0), NONE);
        due(x.items(1), 0);
    }
}
