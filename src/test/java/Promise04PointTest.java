/** Promise 4: point. */
public final class Promise04PointTest extends Sentences {
    public static void main(String[] args) {
        sentence("an object gets an object as one more item", Promise04PointTest::getsOneMoreItem);
        sentence("an object gets an object: itself, or one that holds it", Promise04PointTest::itselfOrItsHolder);
        sentence("behind the others", Promise04PointTest::behindTheOthers);
        sentence("how many it has", Promise04PointTest::answersHowManyItHas);
        sentence("NONE if the object does not exist", Promise04PointTest::noneIfTheOwnerIsNot);
        sentence("NONE if the item does not exist", Promise04PointTest::noneIfTheItemIsNot);
        sentence("NONE if both do not exist", Promise04PointTest::noneIfBothAreNot);
        sentence("NONE, first: also with 300", Promise04PointTest::noneComesFirst);
        sentence("FULL with 300: not with 299", Promise04PointTest::notFullWith299);
        sentence("FULL with 300", Promise04PointTest::fullWith300);
        sentence("FULL with 300: no more when one was taken", Promise04PointTest::notFullWhenOneWasTaken);
        sentence("FULL with 300: a full object can be an item", Promise04PointTest::aFullOneCanBeAnItem);
        end();
    }

    private static void getsOneMoreItem() {
        Heap x = heapOf(2);
        due(x.point(0, 1), 1);
        due(x.item(0, 0), THING + 1);
        due(x.items(0), 1);
        due(x.items(1), 0);
        due(x.holders(0), 1);
        due(x.holders(1), 2);
        due(x.root(1, -1), 2);
        due(x.holders(1), 1);
    }

    private static void itselfOrItsHolder() {
        Heap x = heapOf(2);
        due(x.point(0, 0), 1);
        due(x.holders(0), 2);
        due(x.point(0, 1), 2);
        due(x.point(1, 0), 1);
        due(x.holders(0), 3);
        due(x.holders(1), 2);
        due(x.item(0, 0), THING);
        due(x.item(1, 0), THING);
    }

    private static void behindTheOthers() {
        Heap x = heapOf(3);
        due(x.point(0, 1), 1);
        due(x.note(0, 7), 2);
        due(x.point(0, 2), 3);
        due(x.point(0, 1), 4);
        due(x.item(0, 0), THING + 1);
        due(x.item(0, 1), 7);
        due(x.item(0, 2), THING + 2);
        due(x.item(0, 3), THING + 1);
        due(x.item(0, 4), NO_ITEM);
    }

    private static void answersHowManyItHas() {
        Heap x = heapOf(3);
        due(x.note(0, 7), 1);
        due(x.point(0, 1), 2);
        due(x.point(0, 1), 3);
        due(x.point(1, 0), 1);
        due(x.take(0, 0), 3);
        due(x.point(0, 2), 3);
        due(x.items(0), 3);
    }

    private static void noneIfTheOwnerIsNot() {
        Heap x = heapOf(3);
        due(x.root(1, -1), 2);
        changesNothing(x, () -> {
            due(x.point(1, 0), NONE);
            due(x.point(3, 0), NONE);
            due(x.point(-1, 0), NONE);
            for (int object : NO_NUMBERS) {
                due(x.point(object, 0), NONE);
            }
        });
    }

    private static void noneIfTheItemIsNot() {
        Heap x = heapOf(3);
        due(x.root(1, -1), 2);
        changesNothing(x, () -> {
            due(x.point(0, 1), NONE);
            due(x.point(0, 3), NONE);
            due(x.point(0, -1), NONE);
            for (int object : NO_NUMBERS) {
                due(x.point(0, object), NONE);
            }
        });
    }

    private static void noneIfBothAreNot() {
        Heap x = heapOf(2);
        due(x.root(1, -1), 1);
        changesNothing(x, () -> {
            due(x.point(1, 1), NONE);
            due(x.point(-1, -1), NONE);
            due(x.point(2, 1), NONE);
            due(x.point(HIGH, LOW), NONE);
        });
    }

    private static void noneComesFirst() {
        Heap x = heapOfInts(300);
        due(x.make(1), 1);
        due(x.root(1, -1), 1);
        changesNothing(x, () -> {
            due(x.point(0, 1), NONE);
            due(x.point(0, 2), NONE);
            due(x.point(0, -1), NONE);
            for (int object : NO_NUMBERS) {
                due(x.point(0, object), NONE);
            }
        });
    }

    private static void notFullWith299() {
        Heap x = heapOfInts(299);
        due(x.make(1), 1);
        due(x.point(0, 1), 300);
        due(x.item(0, 299), THING + 1);
        due(x.holders(1), 2);
    }

    private static void fullWith300() {
        Heap x = heapOf(2);
        for (int n = 1; n <= 300; n++) {
            due(x.point(0, 1), n);
        }
        changesNothing(x, () -> {
            due(x.point(0, 1), FULL);
            due(x.point(0, 0), FULL);
        });
        due(x.items(0), 300);
        due(x.holders(1), 301);
        due(x.holders(0), 1);
    }

    private static void notFullWhenOneWasTaken() {
        Heap x = heapOfInts(300);
        due(x.point(0, 0), FULL);
        due(x.take(0, 0), 1);
        due(x.point(0, 0), 300);
        due(x.item(0, 0), 2);
        due(x.item(0, 299), THING);
        due(x.point(0, 0), FULL);
        due(x.holders(0), 2);
    }

    private static void aFullOneCanBeAnItem() {
        Heap x = heapOfInts(300);
        due(x.make(1), 1);
        due(x.point(1, 0), 1);
        due(x.holders(0), 2);
        due(x.items(0), 300);
    }
}
