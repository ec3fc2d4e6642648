/** Promise 9: held. */
public final class Promise09HeldTest extends Sentences {
    public static void main(String[] args) {
        sentence("the object that a root holds: of the first and the last root", Promise09HeldTest::whatARootHolds);
        sentence("the object that a root holds: by make and by root", Promise09HeldTest::byMakeAndByRoot);
        sentence("the object that a root holds: not by a call that is refused", Promise09HeldTest::notByARefusedCall);
        sentence("NONE if it holds nothing: at first", Promise09HeldTest::noneAtFirst);
        sentence("NONE if it holds nothing: any more", Promise09HeldTest::noneAnyMore);
        sentence("REFUSED for another root", Promise09HeldTest::refusedForAnotherRoot);
        end();
    }

    private static void whatARootHolds() {
        Heap x = new Heap();
        due(x.make(15), 0);
        due(x.make(0), 1);
        due(x.held(15), 0);
        due(x.held(0), 1);
        due(x.root(15, 1), 1);
        due(x.held(15), 1);
        due(x.held(0), 1);
    }

    private static void byMakeAndByRoot() {
        Heap x = heapOf(2);
        due(x.make(0), 2);
        due(x.held(0), 2);
        due(x.root(0, 1), 1);
        due(x.held(0), 1);
        changesNothing(x, () -> due(x.held(0), 1));
    }

    private static void notByARefusedCall() {
        Heap x = heapOf(2);
        due(x.root(0, 5), NONE);
        due(x.root(0, -2), NONE);
        due(x.root(16, 1), REFUSED);
        due(x.make(-1), REFUSED);
        due(x.held(0), 0);
        due(x.held(1), 1);
        due(x.held(15), NONE);
    }

    private static void noneAtFirst() {
        Heap x = new Heap();
        for (int r = 0; r < 16; r++) {
            due(x.held(r), NONE);
        }
    }

    private static void noneAnyMore() {
        Heap x = heapOf(16);
        for (int r = 0; r < 16; r++) {
            due(x.root(r, -1), 15 - r);
            due(x.held(r), NONE);
        }
    }

    private static void refusedForAnotherRoot() {
        Heap x = heapOf(16);
        changesNothing(x, () -> {
            for (int r : OTHER_ROOTS) {
                due(x.held(r), REFUSED);
            }
        });
        Heap empty = new Heap();
        due(empty.held(-1), REFUSED);
        due(empty.held(16), REFUSED);
    }
}
