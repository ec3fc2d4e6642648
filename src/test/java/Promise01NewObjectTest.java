/** Promise 1: a new object is in the state that the terms give. */
public final class Promise01NewObjectTest extends Sentences {
    public static void main(String[] args) {
        sentence("the constants are the document's", Promise01NewObjectTest::constantsAreTheDocuments);
        sentence("a new object: no object exists, none was made", Promise01NewObjectTest::noneExists);
        sentence("a new object: the roots hold nothing", Promise01NewObjectTest::theRootsHoldNothing);
        sentence("a new object: each call that needs an object", Promise01NewObjectTest::noCallFindsAnObject);
        sentence("a new object: nothing to let go, nothing to collect", Promise01NewObjectTest::nothingGoes);
        sentence("a new object: whatever others have been used for", Promise01NewObjectTest::heapsShareNothing);
        end();
    }

    private static void constantsAreTheDocuments() {
        due(ThingHeap.REFUSED, -1);
        due(ThingHeap.NONE, -2);
        due(ThingHeap.FULL, -3);
    }

    private static void noneExists() {
        Heap x = new Heap();
        due(x.count(0), 0);
        due(x.count(1), 0);
        due(x.make(0), 0);
    }

    private static void theRootsHoldNothing() {
        Heap x = new Heap();
        for (int r = 0; r < 16; r++) {
            due(x.held(r), NONE);
        }
    }

    private static void noCallFindsAnObject() {
        Heap x = new Heap();
        changesNothing(x, () -> {
            due(x.root(0, 0), NONE);
            due(x.point(0, 0), NONE);
            due(x.note(0, 0), NONE);
            due(x.turn(0, 0, 0), NONE);
            due(x.take(0, 0), NONE);
            due(x.item(0, 0), NO_ITEM);
            due(x.holders(0), NONE);
            due(x.items(0), NONE);
        });
    }

    private static void nothingGoes() {
        Heap x = new Heap();
        changesNothing(x, () -> {
            due(x.root(0, -1), 0);
            due(x.root(15, -1), 0);
            due(x.collect(), 0);
        });
    }

    private static void heapsShareNothing() {
        Heap x = heapOf(3);
        due(x.point(0, 1), 1);
        Heap y = new Heap();
        due(y.count(0), 0);
        due(y.count(1), 0);
        due(y.held(0), NONE);
        due(y.make(0), 0);
        due(y.items(0), 0);
        due(y.root(0, -1), 0);
        due(x.count(0), 3);
        due(x.count(1), 3);
        due(x.held(0), 0);
        due(x.items(0), 1);
        due(x.make(3), 3);
    }
}
