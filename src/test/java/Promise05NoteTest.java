/** Promise 5: note, "likewise an int": as point, but for what the item is. */
public final class Promise05NoteTest extends Sentences {
    public static void main(String[] args) {
        sentence("an object gets an int as one more item, behind the others", Promise05NoteTest::behindTheOthers);
        sentence("any int: the smallest, the largest, and those that are answers", Promise05NoteTest::anyInt);
        sentence("any int: none is looked for among the objects", Promise05NoteTest::noIntIsAnObject);
        sentence("how many it has", Promise05NoteTest::answersHowManyItHas);
        sentence("NONE if the object does not exist", Promise05NoteTest::noneIfTheOwnerIsNot);
        sentence("FULL with 300: not with 299", Promise05NoteTest::notFullWith299);
        sentence("FULL with 300", Promise05NoteTest::fullWith300);
        sentence("FULL with 300: no more when one was taken", Promise05NoteTest::notFullWhenOneWasTaken);
        end();
    }

    private static void behindTheOthers() {
        Heap x = heapOf(2);
        due(x.note(0, 30), 1);
        due(x.point(0, 1), 2);
        due(x.note(0, 10), 3);
        due(x.note(0, 20), 4);
        due(x.item(0, 0), 30);
        due(x.item(0, 1), THING + 1);
        due(x.item(0, 2), 10);
        due(x.item(0, 3), 20);
        due(x.item(0, 4), NO_ITEM);
        due(x.items(1), 0);
    }

    private static void anyInt() {
        Heap x = heapOf(2);
        int[] values = {0, 1, -1, -2, -3, 300, 1500, HIGH, HIGH - 1, LOW, LOW + 1};
        for (int n = 0; n < values.length; n++) {
            due(x.note(1, values[n]), n + 1);
        }
        for (int n = 0; n < values.length; n++) {
            due(x.item(1, n), values[n]);
        }
    }

    private static void noIntIsAnObject() {
        Heap x = heapOf(3);
        due(x.root(1, -1), 2);
        due(x.note(0, 1), 1);
        due(x.note(0, 99), 2);
        due(x.note(0, 2), 3);
        due(x.holders(2), 1);
        due(x.count(0), 2);
        due(x.root(2, -1), 1);
        due(x.item(0, 2), 2);
    }

    private static void answersHowManyItHas() {
        Heap x = heapOf(2);
        due(x.point(0, 1), 1);
        due(x.note(0, 9), 2);
        due(x.note(1, 9), 1);
        due(x.note(0, 9), 3);
        due(x.take(0, 0), 2);
        due(x.note(0, 9), 3);
        due(x.items(0), 3);
        due(x.items(1), 1);
    }

    private static void noneIfTheOwnerIsNot() {
        Heap x = heapOf(3);
        due(x.note(1, 5), 1);
        due(x.root(1, -1), 2);
        changesNothing(x, () -> {
            due(x.note(1, 0), NONE);
            due(x.note(3, 0), NONE);
            due(x.note(-1, 0), NONE);
            for (int object : NO_NUMBERS) {
                due(x.note(object, 0), NONE);
            }
        });
    }

    private static void notFullWith299() {
        Heap x = heapOf(1);
        for (int n = 1; n <= 299; n++) {
            due(x.point(0, 0), n);
        }
        due(x.note(0, -7), 300);
        due(x.item(0, 299), -7);
        due(x.holders(0), 300);
    }

    private static void fullWith300() {
        Heap x = heapOfInts(300);
        changesNothing(x, () -> {
            due(x.note(0, 301), FULL);
            due(x.note(0, 0), FULL);
            due(x.note(0, -1), FULL);
        });
        due(x.items(0), 300);
        due(x.item(0, 299), 300);
    }

    private static void notFullWhenOneWasTaken() {
        Heap x = heapOfInts(300);
        due(x.note(0, 301), FULL);
        due(x.take(0, 10), 1);
        due(x.item(0, 9), 10);
        due(x.item(0, 10), 12);
        due(x.item(0, 298), 300);
        due(x.note(0, -5), 300);
        due(x.item(0, 299), -5);
        due(x.note(0, 301), FULL);
    }
}
