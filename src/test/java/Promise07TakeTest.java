/** Promise 7: take. */
public final class Promise07TakeTest extends Sentences {
    public static void main(String[] args) {
        sentence("item k of an object goes, those behind move up: the first", Promise07TakeTest::theFirstGoes);
        sentence("item k of an object goes, those behind move up: the last", Promise07TakeTest::theLastGoes);
        sentence("item k of an object goes, those behind move up: one between", Promise07TakeTest::oneBetweenGoes);
        sentence("item k of an object goes: the only one", Promise07TakeTest::theOnlyOneGoes);
        sentence("item k of an object goes: of 300", Promise07TakeTest::oneOf300Goes);
        sentence("item k goes: the object that it was is held once less", Promise07TakeTest::itIsHeldOnceLess);
        sentence("item k goes: its own object goes by it", Promise07TakeTest::itsOwnObjectGoes);
        sentence("how many objects exist: an int takes none along", Promise07TakeTest::anIntTakesNoneAlong);
        sentence("how many objects exist: after those that go", Promise07TakeTest::answersHowManyExist);
        sentence("NONE if the object does not exist", Promise07TakeTest::noneIfTheOwnerIsNot);
        sentence("NONE if the item does not exist: too large a k", Promise07TakeTest::noneIfKIsTooLarge);
        sentence("NONE if the item does not exist: k below 0", Promise07TakeTest::noneIfKIsBelow0);
        sentence("NONE if the item does not exist: an object without items", Promise07TakeTest::noneWithoutItems);
        end();
    }

    private static void theFirstGoes() {
        Heap x = heapOfInts(3);
        due(x.take(0, 0), 1);
        due(x.items(0), 2);
        due(x.item(0, 0), 2);
        due(x.item(0, 1), 3);
        due(x.item(0, 2), NO_ITEM);
    }

    private static void theLastGoes() {
        Heap x = heapOfInts(3);
        due(x.take(0, 2), 1);
        due(x.items(0), 2);
        due(x.item(0, 0), 1);
        due(x.item(0, 1), 2);
        due(x.item(0, 2), NO_ITEM);
    }

    private static void oneBetweenGoes() {
        Heap x = heapOfInts(2);
        due(x.make(1), 1);
        due(x.point(0, 1), 3);
        due(x.note(0, 4), 4);
        due(x.take(0, 1), 2);
        due(x.items(0), 3);
        due(x.item(0, 0), 1);
        due(x.item(0, 1), THING + 1);
        due(x.item(0, 2), 4);
        due(x.item(0, 3), NO_ITEM);
        due(x.holders(1), 2);
    }

    private static void theOnlyOneGoes() {
        Heap x = heapOfInts(1);
        due(x.take(0, 0), 1);
        due(x.items(0), 0);
        due(x.item(0, 0), NO_ITEM);
        due(x.note(0, 5), 1);
        due(x.item(0, 0), 5);
    }

    private static void oneOf300Goes() {
        Heap x = heapOfInts(300);
        due(x.take(0, 299), 1);
        due(x.items(0), 299);
        due(x.item(0, 298), 299);
        due(x.item(0, 299), NO_ITEM);
        due(x.take(0, 0), 1);
        due(x.items(0), 298);
        for (int k = 0; k <= 297; k += 3) {
            due(x.item(0, k), k + 2);
        }
    }

    private static void itIsHeldOnceLess() {
        Heap x = heapOf(2);
        due(x.point(0, 1), 1);
        due(x.point(0, 1), 2);
        due(x.holders(1), 3);
        due(x.take(0, 0), 2);
        due(x.holders(1), 2);
        due(x.item(0, 0), THING + 1);
        due(x.take(0, 0), 2);
        due(x.holders(1), 1);
        due(x.held(1), 1);
    }

    private static void itsOwnObjectGoes() {
        Heap x = heapOf(3);
        due(x.point(0, 1), 1);
        due(x.point(0, 2), 2);
        due(x.point(1, 0), 1);
        due(x.root(0, -1), 3);
        due(x.root(1, -1), 3);
        due(x.holders(2), 2);
        due(x.take(0, 0), 1);
        due(x.holders(2), 1);
        goneIs(x, 0);
        goneIs(x, 1);
    }

    private static void anIntTakesNoneAlong() {
        Heap x = heapOf(2);
        due(x.note(0, 1), 1);
        due(x.note(0, 0), 2);
        due(x.take(0, 0), 2);
        due(x.take(0, 0), 2);
        due(x.holders(0), 1);
        due(x.holders(1), 1);
    }

    private static void answersHowManyExist() {
        Heap x = heapOf(4);
        due(x.point(0, 1), 1);
        due(x.point(1, 2), 1);
        due(x.point(1, 3), 2);
        due(x.root(1, -1), 4);
        due(x.root(2, -1), 4);
        due(x.take(0, 0), 2);
        due(x.count(0), 2);
        due(x.holders(3), 1);
        goneIs(x, 1);
        goneIs(x, 2);
    }

    private static void noneIfTheOwnerIsNot() {
        Heap x = heapOf(3);
        due(x.note(0, 4), 1);
        due(x.note(1, 5), 1);
        due(x.root(1, -1), 2);
        changesNothing(x, () -> {
            due(x.take(1, 0), NONE);
            due(x.take(3, 0), NONE);
            due(x.take(-1, 0), NONE);
            for (int object : NO_NUMBERS) {
                due(x.take(object, 0), NONE);
            }
        });
    }

    private static void noneIfKIsTooLarge() {
        Heap x = heapOf(2);
        due(x.point(0, 1), 1);
        due(x.note(0, 6), 2);
        due(x.root(1, -1), 2);
        changesNothing(x, () -> {
            for (int k : BEHIND_TWO_ITEMS) {
                due(x.take(0, k), NONE);
            }
        });
        Heap full = heapOfInts(300);
        changesNothing(full, () -> due(full.take(0, 300), NONE));
    }

    private static void noneIfKIsBelow0() {
        Heap x = heapOfInts(2);
        changesNothing(x, () -> {
            for (int k : BELOW_0) {
                due(x.take(0, k), NONE);
            }
        });
    }

    private static void noneWithoutItems() {
        Heap x = heapOf(2);
        changesNothing(x, () -> due(x.take(0, 0), NONE));
        due(x.note(0, 5), 1);
        due(x.take(0, 0), 2);
        changesNothing(x, () -> due(x.take(0, 0), NONE));
    }
}
