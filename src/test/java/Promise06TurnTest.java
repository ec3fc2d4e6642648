/** Promise 6: turn. */
public final class Promise06TurnTest extends Sentences {
    public static void main(String[] args) {
        sentence("item k of an object becomes an object: an int does", Promise06TurnTest::anIntBecomesAnObject);
        sentence("item k of an object becomes an object: another one", Promise06TurnTest::anObjectBecomesAnother);
        sentence("item k: the first, the last, and no other", Promise06TurnTest::theFirstAndTheLast);
        sentence("item k becomes an object: the one that it is", Promise06TurnTest::theOneThatItIs);
        sentence("item k becomes an object: the one that holds it", Promise06TurnTest::theOneThatHoldsIt);
        sentence("item k becomes an object: one that only the old item holds", Promise06TurnTest::oneBelowTheOldItem);
        sentence("item k becomes an object: its own object goes by it", Promise06TurnTest::itsOwnObjectGoes);
        sentence("item k becomes an object: with 300 items, too", Promise06TurnTest::withAFullRow);
        sentence("how many objects exist: after those that go", Promise06TurnTest::answersHowManyExist);
        sentence("NONE if the object does not exist", Promise06TurnTest::noneIfTheOwnerIsNot);
        sentence("NONE if the new item's object does not exist", Promise06TurnTest::noneIfTheNewItemIsNot);
        sentence("NONE if the item does not exist: too large a k", Promise06TurnTest::noneIfKIsTooLarge);
        sentence("NONE if the item does not exist: an object without items", Promise06TurnTest::noneWithoutItems);
        sentence("NONE if the item does not exist: k below 0", Promise06TurnTest::noneIfKIsBelow0);
        sentence("nothing changes then, whatever is wrong", Promise06TurnTest::nothingChangesThen);
        end();
    }

    private static void anIntBecomesAnObject() {
        Heap x = heapOf(2);
        due(x.note(0, 7), 1);
        due(x.turn(0, 0, 1), 2);
        due(x.item(0, 0), THING + 1);
        due(x.items(0), 1);
        due(x.holders(1), 2);
        due(x.holders(0), 1);
    }

    private static void anObjectBecomesAnother() {
        Heap x = heapOf(3);
        due(x.point(0, 1), 1);
        due(x.turn(0, 0, 2), 3);
        due(x.item(0, 0), THING + 2);
        due(x.items(0), 1);
        due(x.holders(1), 1);
        due(x.holders(2), 2);
    }

    private static void theFirstAndTheLast() {
        Heap x = heapOfInts(4);
        due(x.make(1), 1);
        due(x.turn(0, 0, 1), 2);
        due(x.turn(0, 3, 1), 2);
        due(x.item(0, 0), THING + 1);
        due(x.item(0, 1), 2);
        due(x.item(0, 2), 3);
        due(x.item(0, 3), THING + 1);
        due(x.item(0, 4), NO_ITEM);
        due(x.holders(1), 3);
    }

    private static void theOneThatItIs() {
        Heap x = heapOf(2);
        due(x.point(0, 1), 1);
        due(x.note(1, 4), 1);
        due(x.root(1, -1), 2);
        changesNothing(x, () -> due(x.turn(0, 0, 1), 2));
        due(x.holders(1), 1);
        due(x.item(1, 0), 4);
    }

    private static void theOneThatHoldsIt() {
        Heap x = heapOf(2);
        due(x.point(0, 1), 1);
        due(x.point(1, 0), 1);
        due(x.root(0, -1), 2);
        due(x.root(1, -1), 2);
        due(x.turn(0, 0, 0), 1);
        due(x.holders(0), 1);
        due(x.item(0, 0), THING);
        goneIs(x, 1);
    }

    private static void oneBelowTheOldItem() {
        Heap x = heapOf(3);
        due(x.point(0, 1), 1);
        due(x.point(1, 2), 1);
        due(x.root(1, -1), 3);
        due(x.root(2, -1), 3);
        due(x.turn(0, 0, 2), 2);
        due(x.item(0, 0), THING + 2);
        due(x.holders(2), 1);
        goneIs(x, 1);
    }

    private static void itsOwnObjectGoes() {
        Heap x = heapOf(3);
        due(x.point(0, 0), 1);
        due(x.point(0, 2), 2);
        due(x.root(0, -1), 3);
        due(x.root(2, -1), 3);
        due(x.turn(0, 0, 1), 1);
        due(x.holders(1), 1);
        goneIs(x, 0);
        goneIs(x, 2);
    }

    private static void withAFullRow() {
        Heap x = heapOfInts(300);
        due(x.turn(0, 299, 0), 1);
        due(x.turn(0, 0, 0), 1);
        due(x.items(0), 300);
        due(x.item(0, 299), THING);
        due(x.item(0, 0), THING);
        due(x.item(0, 298), 299);
        due(x.holders(0), 3);
    }

    private static void answersHowManyExist() {
        Heap x = heapOf(4);
        due(x.point(0, 1), 1);
        due(x.point(1, 2), 1);
        due(x.root(1, -1), 4);
        due(x.root(2, -1), 4);
        due(x.turn(0, 0, 3), 2);
        due(x.count(0), 2);
        goneIs(x, 1);
        goneIs(x, 2);
    }

    private static void noneIfTheOwnerIsNot() {
        Heap x = heapOf(3);
        due(x.note(1, 5), 1);
        due(x.root(1, -1), 2);
        changesNothing(x, () -> {
            due(x.turn(1, 0, 0), NONE);
            due(x.turn(3, 0, 0), NONE);
            due(x.turn(-1, 0, 0), NONE);
            for (int object : NO_NUMBERS) {
                due(x.turn(object, 0, 0), NONE);
            }
        });
    }

    private static void noneIfTheNewItemIsNot() {
        Heap x = heapOf(4);
        due(x.point(0, 1), 1);
        due(x.note(0, 5), 2);
        due(x.root(1, -1), 4);
        due(x.root(3, -1), 3);
        changesNothing(x, () -> {
            for (int k = 0; k < 2; k++) {
                due(x.turn(0, k, 3), NONE);
                due(x.turn(0, k, 4), NONE);
                due(x.turn(0, k, -1), NONE);
                for (int object : NO_NUMBERS) {
                    due(x.turn(0, k, object), NONE);
                }
            }
        });
    }

    private static void noneIfKIsTooLarge() {
        Heap x = heapOf(2);
        due(x.note(0, 5), 1);
        due(x.note(0, 6), 2);
        changesNothing(x, () -> {
            for (int k : BEHIND_TWO_ITEMS) {
                due(x.turn(0, k, 1), NONE);
            }
        });
        Heap full = heapOfInts(300);
        changesNothing(full, () -> due(full.turn(0, 300, 0), NONE));
    }

    private static void noneWithoutItems() {
        Heap x = heapOf(2);
        changesNothing(x, () -> due(x.turn(0, 0, 1), NONE));
        due(x.note(0, 5), 1);
        due(x.take(0, 0), 2);
        changesNothing(x, () -> due(x.turn(0, 0, 1), NONE));
    }

    private static void noneIfKIsBelow0() {
        Heap x = heapOf(2);
        due(x.note(0, 5), 1);
        changesNothing(x, () -> {
            for (int k : BELOW_0) {
                due(x.turn(0, k, 1), NONE);
                due(x.turn(1, k, 1), NONE);
            }
        });
    }

    private static void nothingChangesThen() {
        Heap x = heapOf(3);
        due(x.point(0, 1), 1);
        due(x.root(1, -1), 3);
        changesNothing(x, () -> {
            due(x.turn(0, 0, 9), NONE);
            due(x.turn(0, 1, 9), NONE);
            due(x.turn(0, -1, 9), NONE);
            due(x.turn(9, 0, 1), NONE);
            due(x.turn(9, 0, 9), NONE);
            due(x.turn(0, 1, 2), NONE);
            due(x.turn(0, -1, 2), NONE);
        });
        due(x.holders(1), 1);
        due(x.holders(2), 1);
    }
}
