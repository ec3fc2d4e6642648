/** Promise 8: item. */
public final class Promise08ItemTest extends Sentences {
    public static void main(String[] args) {
        sentence("an int as a long, with its sign", Promise08ItemTest::anIntWithItsSign);
        sentence("2^40 and the number of an object: from 0 on", Promise08ItemTest::anObjectsNumber);
        sentence("2^40 and the number: an int of that number is none", Promise08ItemTest::anIntIsNoObject);
        sentence("item k: the first and the last of 300", Promise08ItemTest::theFirstAndTheLast);
        sentence("2^41 if there is none: too large a k", Promise08ItemTest::noneIfKIsTooLarge);
        sentence("2^41 if there is none: k below 0", Promise08ItemTest::noneIfKIsBelow0);
        sentence("2^41 if there is none: an object without items", Promise08ItemTest::noneWithoutItems);
        sentence("2^41 if the object does not exist", Promise08ItemTest::noneIfTheOwnerIsNot);
        end();
    }

    private static void anIntWithItsSign() {
        Heap x = heapOf(1);
        int[] values = {0, -1, 1, LOW, HIGH, LOW + 1, -2, -3};
        for (int n = 0; n < values.length; n++) {
            due(x.note(0, values[n]), n + 1);
        }
        due(x.item(0, 0), 0L);
        due(x.item(0, 1), -1L);
        due(x.item(0, 2), 1L);
        due(x.item(0, 3), -2147483648L);
        due(x.item(0, 4), 2147483647L);
        due(x.item(0, 5), -2147483647L);
        due(x.item(0, 6), -2L);
        due(x.item(0, 7), -3L);
    }

    private static void anObjectsNumber() {
        Heap x = heapOf(1);
        for (int n = 1; n < 200; n++) {
            due(x.make(1), n);
        }
        due(x.point(0, 0), 1);
        due(x.point(0, 199), 2);
        due(x.item(0, 0), 1099511627776L);
        due(x.item(0, 1), 1099511627975L);
    }

    private static void anIntIsNoObject() {
        Heap x = heapOf(2);
        due(x.note(0, 1), 1);
        due(x.point(0, 1), 2);
        due(x.item(0, 0), 1L);
        due(x.item(0, 1), 1099511627777L);
        due(x.turn(0, 0, 1), 2);
        due(x.item(0, 0), 1099511627777L);
    }

    private static void theFirstAndTheLast() {
        Heap x = heapOfInts(300);
        due(x.item(0, 0), 1L);
        due(x.item(0, 299), 300L);
        changesNothing(x, () -> {
            for (int k = 0; k < 100; k++) {
                due(x.item(0, 2 * k), 2 * k + 1);
            }
        });
    }

    private static void noneIfKIsTooLarge() {
        Heap x = heapOfInts(2);
        due(x.item(0, 1), 2L);
        due(x.item(0, 2), 2199023255552L);
        for (int k : BEHIND_TWO_ITEMS) {
            due(x.item(0, k), NO_ITEM);
        }
        Heap full = heapOfInts(300);
        due(full.item(0, 300), NO_ITEM);
    }

    private static void noneIfKIsBelow0() {
        Heap x = heapOfInts(2);
        for (int k : BELOW_0) {
            due(x.item(0, k), NO_ITEM);
        }
    }

    private static void noneWithoutItems() {
        Heap x = heapOf(1);
        due(x.item(0, 0), NO_ITEM);
        due(x.item(0, 1), NO_ITEM);
        due(x.item(0, -1), NO_ITEM);
        due(x.note(0, 5), 1);
        due(x.take(0, 0), 1);
        due(x.item(0, 0), NO_ITEM);
    }

    private static void noneIfTheOwnerIsNot() {
        Heap x = heapOf(3);
        due(x.note(0, 4), 1);
        due(x.note(1, 5), 1);
        due(x.root(1, -1), 2);
        changesNothing(x, () -> {
            due(x.item(1, 0), 2199023255552L);
            due(x.item(3, 0), NO_ITEM);
            due(x.item(-1, 0), NO_ITEM);
            due(x.item(-1, -1), NO_ITEM);
            for (int object : NO_NUMBERS) {
                due(x.item(object, 0), NO_ITEM);
            }
        });
    }
}
