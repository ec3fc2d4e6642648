/** Promise 13: count. */
public final class Promise13CountTest extends Sentences {
    public static void main(String[] args) {
        sentence("what 0: objects that exist", Promise13CountTest::thatExist);
        sentence("what 0: also those that can not be reached", Promise13CountTest::alsoThoseNotReached);
        sentence("what 1: that were made, also those that went", Promise13CountTest::thatWereMade);
        sentence("what 1: a call that is refused makes none", Promise13CountTest::aRefusedCallMakesNone);
        sentence("what 1: a call that is FULL makes none", Promise13CountTest::aFullCallMakesNone);
        sentence("REFUSED for others", Promise13CountTest::refusedForOthers);
        end();
    }

    private static void thatExist() {
        Heap x = new Heap();
        due(x.count(0), 0);
        due(x.make(0), 0);
        due(x.count(0), 1);
        due(x.make(0), 1);
        due(x.count(0), 1);
        due(x.make(1), 2);
        changesNothing(x, () -> due(x.count(0), 2));
        due(x.root(0, -1), 1);
        due(x.count(0), 1);
        due(x.root(1, -1), 0);
        due(x.count(0), 0);
    }

    private static void alsoThoseNotReached() {
        Heap x = heapOf(2);
        due(x.point(0, 0), 1);
        due(x.root(0, -1), 2);
        due(x.count(0), 2);
        due(x.collect(), 1);
        due(x.count(0), 1);
    }

    private static void thatWereMade() {
        Heap x = new Heap();
        due(x.count(1), 0);
        for (int n = 0; n < 5; n++) {
            due(x.make(0), n);
            due(x.count(1), n + 1);
        }
        due(x.point(4, 4), 1);
        due(x.root(0, -1), 1);
        due(x.collect(), 1);
        due(x.count(0), 0);
        changesNothing(x, () -> due(x.count(1), 5));
    }

    private static void aRefusedCallMakesNone() {
        Heap x = heapOf(3);
        due(x.make(16), REFUSED);
        due(x.make(-1), REFUSED);
        due(x.count(1), 3);
        due(x.count(0), 3);
        due(x.make(3), 3);
        due(x.count(1), 4);
    }

    private static void aFullCallMakesNone() {
        Heap x = heapOf1500();
        due(x.make(0), FULL);
        due(x.make(1), FULL);
        due(x.count(0), 1500);
        due(x.count(1), 1500);
    }

    private static void refusedForOthers() {
        Heap x = heapOf(2);
        changesNothing(x, () -> {
            int[] others = {-1, 2, 3, -2, 65536, LOW, HIGH};
            for (int what : others) {
                due(x.count(what), REFUSED);
            }
        });
        Heap empty = new Heap();
        due(empty.count(-1), REFUSED);
        due(empty.count(2), REFUSED);
    }
}
