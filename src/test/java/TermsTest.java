/** The terms of the document, which all promises use. */
public final class TermsTest extends Sentences {
    public static void main(String[] args) {
        sentence("objects are numbered from 0", TermsTest::numbersBeginAt0);
        sentence("numbered as they are made: no number comes again", TermsTest::noNumberComesAgain);
        sentence("at most 1500 exist: the last that may be made", TermsTest::the1500thIsMade);
        sentence("at most 1500 exist: one too many", TermsTest::the1501stIsNot);
        sentence("at most 1500 at a time: those that went do not count", TermsTest::goneOnesDoNotCount);
        sentence("items, at most 300: the last that fits", TermsTest::the300thItemFits);
        sentence("items, at most 300: one too many", TermsTest::the301stItemDoesNot);
        sentence("each has items, at most 300: not all together", TermsTest::eachHasItsOwn300);
        sentence("items, at most 300: those that were taken do not count", TermsTest::takenItemsDoNotCount);
        sentence("ints or objects: an int holds nothing", TermsTest::anIntHoldsNothing);
        sentence("holds an object as often as it is an item", TermsTest::heldAsOftenAsItIsAnItem);
        sentence("holds an object as often as it is an item: itself too", TermsTest::aThingMayHoldItself);
        sentence("roots 0 to 15: the first and the last", TermsTest::rootsFrom0To15);
        sentence("roots 0 to 15: none below, none above", TermsTest::noOtherRoots);
        sentence("roots hold an object each", TermsTest::aRootHoldsOneThing);
        sentence("roots hold nothing at first", TermsTest::rootsHoldNothingAtFirst);
        sentence("what nothing holds goes at once: by root", TermsTest::goesByRoot);
        sentence("what nothing holds goes at once: by make", TermsTest::goesByMake);
        sentence("what nothing holds goes at once: by turn", TermsTest::goesByTurn);
        sentence("what nothing holds goes at once: by take", TermsTest::goesByTake);
        sentence("goes at once: it is no object for any call", TermsTest::whatWentIsNoObject);
        sentence("goes only if nothing holds it: one hold is enough", TermsTest::oneHoldIsEnough);
        sentence("goes only if nothing holds it: itself is enough", TermsTest::itselfIsEnough);
        sentence("and holds nothing then: a chain goes", TermsTest::aChainGoes);
        sentence("and holds nothing then: each of its holds ends", TermsTest::eachOfItsHoldsEnds);
        sentence("and holds nothing then: held by two that go", TermsTest::heldByTwoThatGo);
        sentence("and holds nothing then: a row of 300", TermsTest::aFullRowLetsGo);
        sentence("reached if a root holds it: any root", TermsTest::reachedFromAnyRoot);
        sentence("reached if one that can be reached holds it: at any place", TermsTest::reachedAtAnyPlace);
        sentence("reached if one that can be reached holds it: at any distance", TermsTest::reachedAtAnyDistance);
        sentence("reached only so: holders do not suffice", TermsTest::holdersDoNotSuffice);
        end();
    }

    private static void numbersBeginAt0() {
        Heap x = new Heap();
        due(x.make(7), 0);
        due(x.make(3), 1);
        due(x.make(7), 2);
        due(x.held(7), 2);
        due(x.held(3), 1);
    }

    private static void noNumberComesAgain() {
        Heap x = heapOf(2);
        due(x.root(1, -1), 1);
        due(x.make(1), 2);
        due(x.point(2, 2), 1);
        due(x.root(1, -1), 2);
        due(x.root(0, -1), 1);
        due(x.collect(), 1);
        due(x.count(0), 0);
        due(x.make(-1), REFUSED);
        due(x.make(0), 3);
        goneIs(x, 0);
        goneIs(x, 1);
        goneIs(x, 2);
    }

    private static void the1500thIsMade() {
        Heap x = heapOf1500();
        due(x.held(0), 1499);
        due(x.holders(1499), 1);
        due(x.items(1499), 0);
        due(x.holders(0), 1);
        due(x.count(1), 1500);
    }

    private static void the1501stIsNot() {
        Heap x = heapOf1500();
        due(x.make(1), FULL);
        due(x.count(0), 1500);
        due(x.holders(1500), NONE);
    }

    private static void goneOnesDoNotCount() {
        Heap x = new Heap().beyondThePromisedCalls();
        for (int n = 0; n < 1600; n++) {
            due(x.make(0), n);
        }
        due(x.count(0), 1);
        due(x.count(1), 1600);
        due(x.held(0), 1599);
        goneIs(x, 1598);
    }

    private static void the300thItemFits() {
        Heap x = heapOfInts(299);
        due(x.point(0, 0), 300);
        due(x.items(0), 300);
        due(x.item(0, 298), 299);
        due(x.item(0, 299), THING);
    }

    private static void the301stItemDoesNot() {
        Heap x = heapOfInts(150);
        for (int n = 151; n <= 300; n++) {
            due(x.point(0, 0), n);
        }
        due(x.note(0, 5), FULL);
        due(x.point(0, 0), FULL);
        due(x.items(0), 300);
        due(x.item(0, 300), NO_ITEM);
        due(x.holders(0), 151);
    }

    private static void eachHasItsOwn300() {
        Heap x = heapOfInts(300);
        due(x.make(1), 1);
        due(x.note(1, 5), 1);
        due(x.point(1, 0), 2);
        due(x.point(0, 1), FULL);
        for (int n = 3; n <= 200; n++) {
            due(x.note(1, n), n);
        }
        due(x.items(0), 300);
    }

    private static void takenItemsDoNotCount() {
        Heap x = heapOfInts(300);
        for (int n = 0; n < 50; n++) {
            due(x.take(0, 299), 1);
            due(x.note(0, -n), 300);
        }
        due(x.item(0, 298), 299);
        due(x.item(0, 299), -49);
        due(x.note(0, 1), FULL);
    }

    private static void anIntHoldsNothing() {
        Heap x = heapOf(2);
        due(x.note(0, 1), 1);
        due(x.note(0, 0), 2);
        due(x.holders(1), 1);
        due(x.holders(0), 1);
        due(x.root(1, -1), 1);
        goneIs(x, 1);
        due(x.item(0, 0), 1);
        due(x.take(0, 1), 1);
        due(x.root(0, -1), 0);
    }

    private static void heldAsOftenAsItIsAnItem() {
        Heap x = heapOf(2);
        for (int n = 1; n <= 3; n++) {
            due(x.point(0, 1), n);
            due(x.holders(1), n + 1);
        }
        due(x.root(1, -1), 2);
        due(x.take(0, 1), 2);
        due(x.holders(1), 2);
        due(x.take(0, 1), 2);
        due(x.holders(1), 1);
        due(x.take(0, 0), 1);
        goneIs(x, 1);
    }

    private static void aThingMayHoldItself() {
        Heap x = heapOf(1);
        due(x.point(0, 0), 1);
        due(x.point(0, 0), 2);
        due(x.holders(0), 3);
        due(x.take(0, 0), 1);
        due(x.holders(0), 2);
    }

    private static void rootsFrom0To15() {
        Heap x = heapOf(16);
        due(x.count(0), 16);
        for (int r = 0; r < 16; r++) {
            due(x.held(r), r);
        }
        due(x.root(0, 15), 15);
        due(x.root(15, 1), 15);
        due(x.held(0), 15);
        due(x.held(15), 1);
    }

    private static void noOtherRoots() {
        Heap x = heapOf(16);
        changesNothing(x, () -> {
            for (int r : OTHER_ROOTS) {
                due(x.make(r), REFUSED);
                due(x.root(r, 0), REFUSED);
                due(x.root(r, -1), REFUSED);
                due(x.held(r), REFUSED);
            }
        });
    }

    private static void aRootHoldsOneThing() {
        Heap x = heapOf(2);
        due(x.root(0, 1), 1);
        due(x.held(0), 1);
        due(x.held(1), 1);
        due(x.holders(1), 2);
        goneIs(x, 0);
    }

    private static void rootsHoldNothingAtFirst() {
        Heap x = new Heap();
        for (int r = 0; r < 16; r++) {
            due(x.held(r), NONE);
        }
        due(x.make(8), 0);
        for (int r = 0; r < 16; r++) {
            due(x.held(r), r == 8 ? 0 : NONE);
        }
    }

    private static void goesByRoot() {
        Heap x = heapOf(2);
        due(x.root(0, -1), 1);
        goneIs(x, 0);
        due(x.count(0), 1);
        due(x.collect(), 0);
    }

    private static void goesByMake() {
        Heap x = heapOf(1);
        due(x.make(0), 1);
        goneIs(x, 0);
        due(x.count(0), 1);
        due(x.collect(), 0);
    }

    private static void goesByTurn() {
        Heap x = heapOf(2);
        due(x.point(0, 1), 1);
        due(x.root(1, -1), 2);
        due(x.turn(0, 0, 0), 1);
        goneIs(x, 1);
        due(x.count(0), 1);
        due(x.collect(), 0);
    }

    private static void goesByTake() {
        Heap x = heapOf(2);
        due(x.point(0, 1), 1);
        due(x.root(1, -1), 2);
        due(x.take(0, 0), 1);
        goneIs(x, 1);
        due(x.count(0), 1);
        due(x.collect(), 0);
    }

    private static void whatWentIsNoObject() {
        Heap x = heapOf(3);
        due(x.note(1, 4), 1);
        due(x.note(0, 6), 1);
        due(x.root(1, -1), 2);
        changesNothing(x, () -> {
            due(x.root(0, 1), NONE);
            due(x.point(1, 0), NONE);
            due(x.point(0, 1), NONE);
            due(x.note(1, 4), NONE);
            due(x.turn(1, 0, 0), NONE);
            due(x.turn(0, 0, 1), NONE);
            due(x.take(1, 0), NONE);
            due(x.item(1, 0), NO_ITEM);
            due(x.holders(1), NONE);
            due(x.items(1), NONE);
        });
    }

    private static void oneHoldIsEnough() {
        Heap x = heapOf(2);
        due(x.root(5, 0), 2);
        due(x.root(0, -1), 2);
        due(x.holders(0), 1);
        due(x.point(1, 0), 1);
        due(x.root(5, -1), 2);
        due(x.holders(0), 1);
        due(x.items(0), 0);
        due(x.take(1, 0), 1);
        goneIs(x, 0);
    }

    private static void itselfIsEnough() {
        Heap x = heapOf(1);
        due(x.point(0, 0), 1);
        due(x.root(0, -1), 1);
        due(x.holders(0), 1);
        due(x.item(0, 0), THING);
        due(x.take(0, 0), 0);
        goneIs(x, 0);
    }

    private static void aChainGoes() {
        Heap x = chainOf(250);
        due(x.root(1, 125), 126);
        goneIs(x, 126);
        due(x.holders(125), 1);
        due(x.root(1, -1), 0);
        goneIs(x, 0);
        due(x.count(0), 0);
    }

    private static void eachOfItsHoldsEnds() {
        Heap x = heapOf(3);
        due(x.point(0, 1), 1);
        due(x.note(0, 2), 2);
        due(x.point(0, 2), 3);
        due(x.point(0, 1), 4);
        due(x.root(2, -1), 3);
        due(x.holders(1), 3);
        due(x.root(0, -1), 1);
        due(x.holders(1), 1);
        goneIs(x, 0);
        goneIs(x, 2);
    }

    private static void heldByTwoThatGo() {
        Heap x = heapOf(4);
        due(x.point(0, 1), 1);
        due(x.point(0, 2), 2);
        due(x.point(1, 3), 1);
        due(x.point(2, 3), 1);
        due(x.root(2, -1), 4);
        due(x.root(3, -1), 4);
        due(x.root(0, -1), 2);
        due(x.holders(1), 1);
        due(x.holders(3), 1);
        due(x.root(1, -1), 0);
    }

    private static void aFullRowLetsGo() {
        Heap x = heapOf(3);
        for (int n = 1; n < 300; n++) {
            due(x.point(0, 1), n);
        }
        due(x.point(0, 2), 300);
        due(x.root(2, -1), 3);
        due(x.holders(1), 300);
        due(x.root(0, -1), 1);
        due(x.holders(1), 1);
        goneIs(x, 2);
    }

    private static void reachedFromAnyRoot() {
        for (int r = 0; r < 16; r++) {
            Heap x = new Heap();
            due(x.make(r), 0);
            due(x.point(0, 0), 1);
            due(x.collect(), 0);
            due(x.holders(0), 2);
            due(x.root(r, -1), 1);
            due(x.collect(), 1);
        }
    }

    private static void reachedAtAnyPlace() {
        int[] places = {0, 1, 150, 298, 299};
        for (int k : places) {
            Heap x = heapOfInts(300);
            due(x.make(1), 1);
            due(x.point(1, 1), 1);
            due(x.turn(0, k, 1), 2);
            due(x.root(1, -1), 2);
            due(x.collect(), 0);
            due(x.holders(1), 2);
            due(x.take(0, k), 2);
            due(x.collect(), 1);
        }
    }

    private static void reachedAtAnyDistance() {
        Heap x = chainOf(240);
        due(x.point(0, 239), 1);
        due(x.collect(), 0);
        due(x.root(3, 120), 240);
        due(x.root(1, -1), 240);
        due(x.collect(), 0);
        due(x.root(3, -1), 240);
        due(x.collect(), 240);
    }

    private static void holdersDoNotSuffice() {
        Heap x = heapOf(3);
        due(x.point(0, 1), 1);
        due(x.point(1, 0), 1);
        due(x.point(1, 2), 2);
        due(x.point(0, 2), 2);
        for (int r = 0; r < 3; r++) {
            due(x.root(r, -1), 3);
        }
        due(x.holders(2), 2);
        due(x.collect(), 3);
    }
}
