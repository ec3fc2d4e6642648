/** Promise 10: holders. */
public final class Promise10HoldersTest extends Sentences {
    public static void main(String[] args) {
        sentence("how often an object is held: by all 16 roots", Promise10HoldersTest::byAllRoots);
        sentence("how often an object is held: by 300 items of one object", Promise10HoldersTest::by300Items);
        sentence("how often an object is held: by itself, too", Promise10HoldersTest::byItself);
        sentence("how often an object is held: by roots and items together", Promise10HoldersTest::byRootsAndItems);
        sentence("also by those that can not be reached", Promise10HoldersTest::byThoseNotReached);
        sentence("as long as they exist: collected ones do not hold", Promise10HoldersTest::notByCollectedOnes);
        sentence("as long as they exist: those that went do not hold", Promise10HoldersTest::notByThoseThatWent);
        sentence("NONE if it does not exist: a number that was not made", Promise10HoldersTest::noneForNoNumber);
        sentence("NONE if it does not exist: one that went", Promise10HoldersTest::noneForOneThatWent);
        end();
    }

    private static void byAllRoots() {
        Heap x = heapOf(1);
        for (int r = 1; r < 16; r++) {
            due(x.root(r, 0), 1);
            due(x.holders(0), r + 1);
        }
        due(x.root(7, 0), 1);
        due(x.holders(0), 16);
        due(x.root(7, -1), 1);
        due(x.holders(0), 15);
    }

    private static void by300Items() {
        Heap x = heapOf(2);
        for (int n = 1; n <= 300; n++) {
            due(x.point(0, 1), n);
        }
        due(x.holders(1), 301);
        due(x.point(0, 1), FULL);
        due(x.holders(1), 301);
        due(x.holders(0), 1);
    }

    private static void byItself() {
        Heap x = heapOf(1);
        due(x.point(0, 0), 1);
        due(x.holders(0), 2);
        due(x.root(0, -1), 1);
        due(x.holders(0), 1);
    }

    private static void byRootsAndItems() {
        Heap x = heapOf(3);
        due(x.root(5, 0), 3);
        due(x.point(0, 0), 1);
        due(x.point(1, 0), 1);
        due(x.point(1, 0), 2);
        due(x.note(1, 0), 3);
        due(x.note(2, 0), 1);
        changesNothing(x, () -> due(x.holders(0), 5));
        due(x.turn(2, 0, 0), 3);
        due(x.holders(0), 6);
        due(x.turn(1, 0, 2), 3);
        due(x.holders(0), 5);
        due(x.holders(2), 2);
        due(x.holders(1), 1);
    }

    private static void byThoseNotReached() {
        Heap x = heapOf(3);
        due(x.point(0, 1), 1);
        due(x.point(1, 0), 1);
        due(x.point(1, 2), 2);
        due(x.root(0, -1), 3);
        due(x.root(1, -1), 3);
        due(x.holders(0), 1);
        due(x.holders(1), 1);
        due(x.holders(2), 2);
        due(x.root(2, -1), 3);
        due(x.holders(2), 1);
    }

    private static void notByCollectedOnes() {
        Heap x = heapOf(3);
        due(x.point(0, 1), 1);
        due(x.point(1, 0), 1);
        due(x.point(1, 2), 2);
        due(x.point(0, 2), 2);
        due(x.root(0, -1), 3);
        due(x.root(1, -1), 3);
        due(x.holders(2), 3);
        due(x.collect(), 2);
        due(x.holders(2), 1);
        due(x.holders(0), NONE);
        due(x.holders(1), NONE);
    }

    private static void notByThoseThatWent() {
        Heap x = heapOf(2);
        due(x.point(0, 1), 1);
        due(x.point(0, 1), 2);
        due(x.holders(1), 3);
        due(x.root(0, -1), 1);
        due(x.holders(1), 1);
    }

    private static void noneForNoNumber() {
        Heap x = heapOf(2);
        changesNothing(x, () -> {
            due(x.holders(2), NONE);
            due(x.holders(-1), NONE);
            for (int object : NO_NUMBERS) {
                due(x.holders(object), NONE);
            }
        });
    }

    private static void noneForOneThatWent() {
        Heap x = heapOf(3);
        due(x.root(1, -1), 2);
        due(x.holders(1), NONE);
        due(x.holders(0), 1);
        due(x.holders(2), 1);
        due(x.root(2, -1), 1);
        due(x.holders(2), NONE);
        due(x.root(0, -1), 0);
        due(x.holders(0), NONE);
    }
}
