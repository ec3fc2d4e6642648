/** Each promise of the document with ordinary inputs, the edges it names, and wrong inputs. */
public final class PromiseTest {
    private static final int REFUSED = -1, NONE = -2, FULL = -3;
    private static final long THING = 1L << 40, NO_ITEM = 1L << 41;
    private static final int[] WRONG_ROOTS = {-1, -2, 16, 17, Integer.MIN_VALUE, Integer.MAX_VALUE};
    private static final int[] WRONG_NUMBERS = {-2, -3, 500, 1500, Integer.MIN_VALUE, Integer.MAX_VALUE};

    private static int wrong = 0;
    private static int promise = 0;

    private static void due(String call, long got, long want) {
        if (got != want) {
            wrong++;
            System.out.println("promise " + promise + ": " + call + " answered " + got + ", due is " + want);
        }
    }

    public static void main(String[] args) {
        promise = 1;
        aNewObjectIsEmpty();
        twoHeapsShareNothing();
        promise = 2;
        makeNumbersThings();
        makeLetsGoOfWhatTheRootHeld();
        makeRefusesOtherRoots();
        makeIsFullWith1500();
        promise = 3;
        rootHoldsAndLetsGo();
        rootKeepsTheSameThing();
        rootReachesDownAChain();
        rootAnswersWrongInputs();
        promise = 4;
        pointAppends();
        pointIsFullWith300();
        pointAnswersWrongInputs();
        promise = 5;
        noteAppends();
        noteIsFullWith300();
        noteAnswersWrongInputs();
        promise = 6;
        turnReplacesAnItem();
        turnKeepsTheSameThing();
        turnToAThingBelowTheOldItem();
        turnMayEndItsOwnThing();
        turnAnswersWrongInputs();
        promise = 7;
        takeMovesTheOthersUp();
        takeLetsGo();
        takeMayEndItsOwnThing();
        takeAnswersWrongInputs();
        promise = 8;
        itemTellsIntsAndThings();
        itemAnswersWrongInputs();
        promise = 9;
        heldTellsTheRootsThing();
        promise = 10;
        holdersCountsEveryHold();
        holdersCountsUnreachedHolders();
        promise = 11;
        itemsCountsIntsAndThings();
        promise = 12;
        collectOfNothing();
        collectTakesCycles();
        collectKeepsWhatAnyRootReaches();
        collectReleasesWhatStays();
        collectFollowsLongChains();
        promise = 13;
        countTellsExistingAndMade();
        System.out.println(wrong == 0 ? "all answers are as due" : wrong + " answers are not as due");
        if (wrong != 0) {
            System.exit(1);
        }
    }

    private static ThingHeap withThings(int n) {
        ThingHeap x = new ThingHeap();
        for (int r = 0; r < n; r++) {
            due("make(" + r + ")", x.make(r), r);
        }
        return x;
    }

    private static void aNewObjectIsEmpty() {
        due("REFUSED", ThingHeap.REFUSED, REFUSED);
        due("NONE", ThingHeap.NONE, NONE);
        due("FULL", ThingHeap.FULL, FULL);
        ThingHeap x = new ThingHeap();
        due("count(0)", x.count(0), 0);
        due("count(1)", x.count(1), 0);
        for (int r = 0; r < 16; r++) {
            due("held(" + r + ")", x.held(r), NONE);
        }
        due("holders(0)", x.holders(0), NONE);
        due("items(0)", x.items(0), NONE);
        due("item(0, 0)", x.item(0, 0), NO_ITEM);
        due("collect()", x.collect(), 0);
        due("root(0, -1)", x.root(0, -1), 0);
    }

    private static void twoHeapsShareNothing() {
        ThingHeap x = withThings(3);
        ThingHeap y = new ThingHeap();
        due("count(0) of another", y.count(0), 0);
        due("count(1) of another", y.count(1), 0);
        due("held(0) of another", y.held(0), NONE);
        due("make(0) of another", y.make(0), 0);
        due("count(1)", x.count(1), 3);
    }

    private static void makeNumbersThings() {
        ThingHeap x = withThings(16);
        for (int r = 0; r < 16; r++) {
            due("held(" + r + ")", x.held(r), r);
            due("items(" + r + ")", x.items(r), 0);
            due("holders(" + r + ")", x.holders(r), 1);
        }
        due("count(0)", x.count(0), 16);
    }

    private static void makeLetsGoOfWhatTheRootHeld() {
        ThingHeap x = withThings(2);
        due("point(0, 1)", x.point(0, 1), 1);
        due("root(1, -1)", x.root(1, -1), 2);
        due("make(0)", x.make(0), 2);
        due("held(0)", x.held(0), 2);
        due("count(0) after both went", x.count(0), 1);
        due("holders(0)", x.holders(0), NONE);
        due("holders(1)", x.holders(1), NONE);
        due("a number is not used again", x.make(1), 3);
        due("root(2, 3)", x.root(2, 3), 2);
        due("make(1) while another root holds 3", x.make(1), 4);
        due("holders(3)", x.holders(3), 1);
    }

    private static void makeRefusesOtherRoots() {
        ThingHeap x = withThings(1);
        for (int r : WRONG_ROOTS) {
            due("make(" + r + ")", x.make(r), REFUSED);
        }
        due("count(0)", x.count(0), 1);
        due("count(1)", x.count(1), 1);
        due("make(15)", x.make(15), 1);
    }

    /** 1500 things need more than the 512 calls that are promised; the limit is tested all the same. */
    private static void makeIsFullWith1500() {
        ThingHeap x = new ThingHeap();
        for (int n = 0; n < 1499; n++) {
            due("make(0)", x.make(0), n);
            due("point", x.point(n, n), 1);
        }
        due("make(0)", x.make(0), 1499);
        due("count(0)", x.count(0), 1500);
        due("make(0), 1499 would go", x.make(0), FULL);
        due("make(1)", x.make(1), FULL);
        due("make(16)", x.make(16), REFUSED);
        due("held(0)", x.held(0), 1499);
        due("held(1)", x.held(1), NONE);
        due("count(0)", x.count(0), 1500);
        due("count(1)", x.count(1), 1500);
        due("root(0, -1)", x.root(0, -1), 1499);
        due("make(0)", x.make(0), 1500);
        due("make(0)", x.make(0), FULL);
        due("collect()", x.collect(), 1499);
        due("make(1)", x.make(1), 1501);
        due("count(0)", x.count(0), 2);
    }

    private static void rootHoldsAndLetsGo() {
        ThingHeap x = withThings(3);
        due("root(0, 1)", x.root(0, 1), 2);
        due("held(0)", x.held(0), 1);
        due("holders(0)", x.holders(0), NONE);
        due("holders(1)", x.holders(1), 2);
        due("root(15, 1)", x.root(15, 1), 2);
        due("holders(1)", x.holders(1), 3);
        due("root(0, -1)", x.root(0, -1), 2);
        due("held(0)", x.held(0), NONE);
        due("root(0, -1) again", x.root(0, -1), 2);
        due("root(2, -1)", x.root(2, -1), 1);
        due("holders(2)", x.holders(2), NONE);
        due("root(0, 2)", x.root(0, 2), NONE);
        due("root(1, -1)", x.root(1, -1), 1);
        due("root(15, -1)", x.root(15, -1), 0);
        due("count(0)", x.count(0), 0);
    }

    private static void rootKeepsTheSameThing() {
        ThingHeap x = withThings(1);
        due("note(0, 5)", x.note(0, 5), 1);
        due("root(0, 0)", x.root(0, 0), 1);
        due("holders(0)", x.holders(0), 1);
        due("item(0, 0)", x.item(0, 0), 5);
    }

    private static void rootReachesDownAChain() {
        ThingHeap x = new ThingHeap();
        int length = 150;
        due("make(0)", x.make(0), 0);
        for (int n = 1; n < length; n++) {
            due("make(1)", x.make(1), n);
            due("point", x.point(n, n - 1), 1);
            due("root(0, n)", x.root(0, n), n + 1);
        }
        due("root(1, 75)", x.root(1, 75), length);
        due("root(0, -1)", x.root(0, -1), 76);
        due("holders(76)", x.holders(76), NONE);
        due("holders(75)", x.holders(75), 1);
        due("root(1, -1)", x.root(1, -1), 0);
    }

    private static void rootAnswersWrongInputs() {
        ThingHeap x = withThings(1);
        for (int r : WRONG_ROOTS) {
            due("root(" + r + ", 0)", x.root(r, 0), REFUSED);
            due("root(" + r + ", -1)", x.root(r, -1), REFUSED);
            due("root(" + r + ", 9)", x.root(r, 9), REFUSED);
        }
        for (int object : WRONG_NUMBERS) {
            due("root(0, " + object + ")", x.root(0, object), NONE);
        }
        due("held(0)", x.held(0), 0);
        due("holders(0)", x.holders(0), 1);
    }

    private static void pointAppends() {
        ThingHeap x = withThings(3);
        due("point(0, 1)", x.point(0, 1), 1);
        due("note(0, 7)", x.note(0, 7), 2);
        due("point(0, 2)", x.point(0, 2), 3);
        due("point(0, 1)", x.point(0, 1), 4);
        due("point(0, 0)", x.point(0, 0), 5);
        due("item(0, 0)", x.item(0, 0), THING + 1);
        due("item(0, 1)", x.item(0, 1), 7);
        due("item(0, 2)", x.item(0, 2), THING + 2);
        due("item(0, 3)", x.item(0, 3), THING + 1);
        due("item(0, 4)", x.item(0, 4), THING);
        due("holders(0)", x.holders(0), 2);
        due("holders(1)", x.holders(1), 3);
        due("holders(2)", x.holders(2), 2);
        due("items(1)", x.items(1), 0);
    }

    private static void pointIsFullWith300() {
        ThingHeap x = withThings(2);
        for (int n = 1; n <= 300; n++) {
            due("point(0, 1)", x.point(0, 1), n);
        }
        due("point(0, 1) with 300", x.point(0, 1), FULL);
        due("note(0, 1) with 300", x.note(0, 1), FULL);
        due("point(0, 9) with 300", x.point(0, 9), NONE);
        due("items(0)", x.items(0), 300);
        due("holders(1)", x.holders(1), 301);
        due("item(0, 299)", x.item(0, 299), THING + 1);
        due("item(0, 300)", x.item(0, 300), NO_ITEM);
        due("turn(0, 299, 0) with 300", x.turn(0, 299, 0), 2);
        due("take(0, 0)", x.take(0, 0), 2);
        due("point(0, 1) with 299", x.point(0, 1), 300);
        due("root(1, -1)", x.root(1, -1), 2);
        due("holders(1)", x.holders(1), 299);
        due("point(1, 1)", x.point(1, 1), 1);
    }

    private static void pointAnswersWrongInputs() {
        ThingHeap x = withThings(2);
        due("root(1, -1)", x.root(1, -1), 1);
        due("point(0, 1)", x.point(0, 1), NONE);
        due("point(1, 0)", x.point(1, 0), NONE);
        due("point(0, -1)", x.point(0, -1), NONE);
        due("point(-1, 0)", x.point(-1, 0), NONE);
        for (int object : WRONG_NUMBERS) {
            due("point(" + object + ", 0)", x.point(object, 0), NONE);
            due("point(0, " + object + ")", x.point(0, object), NONE);
        }
        due("items(0)", x.items(0), 0);
        due("holders(0)", x.holders(0), 1);
    }

    private static void noteAppends() {
        ThingHeap x = withThings(2);
        int[] values = {0, 1, -1, -2, -3, 41, Integer.MAX_VALUE, Integer.MIN_VALUE};
        for (int n = 0; n < values.length; n++) {
            due("note(1, " + values[n] + ")", x.note(1, values[n]), n + 1);
        }
        for (int n = 0; n < values.length; n++) {
            due("item(1, " + n + ")", x.item(1, n), values[n]);
        }
        due("an int holds nothing: holders(0)", x.holders(0), 1);
        due("an int holds nothing: holders(1)", x.holders(1), 1);
        due("root(0, -1)", x.root(0, -1), 1);
    }

    private static void noteIsFullWith300() {
        ThingHeap x = withThings(1);
        for (int n = 1; n <= 300; n++) {
            due("note(0, " + n + ")", x.note(0, n), n);
        }
        due("note(0, 301) with 300", x.note(0, 301), FULL);
        due("point(0, 0) with 300", x.point(0, 0), FULL);
        due("items(0)", x.items(0), 300);
        due("holders(0)", x.holders(0), 1);
        due("item(0, 299)", x.item(0, 299), 300);
        due("take(0, 10)", x.take(0, 10), 1);
        due("item(0, 9)", x.item(0, 9), 10);
        due("item(0, 10)", x.item(0, 10), 12);
        due("item(0, 298)", x.item(0, 298), 300);
        due("note(0, -5) with 299", x.note(0, -5), 300);
        due("item(0, 299)", x.item(0, 299), -5);
    }

    private static void noteAnswersWrongInputs() {
        ThingHeap x = withThings(1);
        due("note(-1, 3)", x.note(-1, 3), NONE);
        for (int object : WRONG_NUMBERS) {
            due("note(" + object + ", 3)", x.note(object, 3), NONE);
        }
        due("items(0)", x.items(0), 0);
        due("root(0, -1)", x.root(0, -1), 0);
        due("note(0, 3)", x.note(0, 3), NONE);
    }

    private static void turnReplacesAnItem() {
        ThingHeap x = withThings(3);
        due("note(0, 7)", x.note(0, 7), 1);
        due("note(0, 8)", x.note(0, 8), 2);
        due("turn(0, 1, 1)", x.turn(0, 1, 1), 3);
        due("item(0, 0)", x.item(0, 0), 7);
        due("item(0, 1)", x.item(0, 1), THING + 1);
        due("items(0)", x.items(0), 2);
        due("holders(1)", x.holders(1), 2);
        due("root(1, -1)", x.root(1, -1), 3);
        due("turn(0, 1, 2), 1 goes", x.turn(0, 1, 2), 2);
        due("item(0, 1)", x.item(0, 1), THING + 2);
        due("holders(1)", x.holders(1), NONE);
        due("holders(2)", x.holders(2), 2);
        due("turn(0, 0, 0)", x.turn(0, 0, 0), 2);
        due("holders(0)", x.holders(0), 2);
    }

    private static void turnKeepsTheSameThing() {
        ThingHeap x = withThings(2);
        due("point(0, 1)", x.point(0, 1), 1);
        due("note(1, 4)", x.note(1, 4), 1);
        due("root(1, -1)", x.root(1, -1), 2);
        due("turn(0, 0, 1)", x.turn(0, 0, 1), 2);
        due("holders(1)", x.holders(1), 1);
        due("item(1, 0)", x.item(1, 0), 4);
    }

    private static void turnToAThingBelowTheOldItem() {
        ThingHeap x = withThings(3);
        due("point(0, 1)", x.point(0, 1), 1);
        due("point(1, 2)", x.point(1, 2), 1);
        due("root(1, -1)", x.root(1, -1), 3);
        due("root(2, -1)", x.root(2, -1), 3);
        due("turn(0, 0, 2), 1 goes", x.turn(0, 0, 2), 2);
        due("holders(1)", x.holders(1), NONE);
        due("holders(2)", x.holders(2), 1);
        due("item(0, 0)", x.item(0, 0), THING + 2);
    }

    private static void turnMayEndItsOwnThing() {
        ThingHeap x = withThings(2);
        due("point(0, 0)", x.point(0, 0), 1);
        due("root(0, -1)", x.root(0, -1), 2);
        due("turn(0, 0, 1), 0 goes", x.turn(0, 0, 1), 1);
        due("items(0)", x.items(0), NONE);
        due("holders(1)", x.holders(1), 1);
    }

    private static void turnAnswersWrongInputs() {
        ThingHeap x = withThings(2);
        due("point(0, 1)", x.point(0, 1), 1);
        due("root(1, -1)", x.root(1, -1), 2);
        int[] places = {-1, 1, 300, Integer.MIN_VALUE, Integer.MAX_VALUE};
        for (int k : places) {
            due("turn(0, " + k + ", 0)", x.turn(0, k, 0), NONE);
        }
        due("turn(1, 0, 0)", x.turn(1, 0, 0), NONE);
        due("turn(0, 0, -1)", x.turn(0, 0, -1), NONE);
        for (int object : WRONG_NUMBERS) {
            due("turn(" + object + ", 0, 0)", x.turn(object, 0, 0), NONE);
            due("turn(0, 0, " + object + ")", x.turn(0, 0, object), NONE);
        }
        due("item(0, 0)", x.item(0, 0), THING + 1);
        due("holders(0)", x.holders(0), 1);
        due("holders(1)", x.holders(1), 1);
    }

    private static void takeMovesTheOthersUp() {
        ThingHeap x = withThings(2);
        for (int n = 0; n < 4; n++) {
            due("note(0, n)", x.note(0, n), n + 1);
        }
        due("point(0, 1)", x.point(0, 1), 5);
        due("take(0, 1)", x.take(0, 1), 2);
        due("item(0, 0)", x.item(0, 0), 0);
        due("item(0, 1)", x.item(0, 1), 2);
        due("item(0, 2)", x.item(0, 2), 3);
        due("item(0, 3)", x.item(0, 3), THING + 1);
        due("item(0, 4)", x.item(0, 4), NO_ITEM);
        due("items(0)", x.items(0), 4);
        due("take(0, 3)", x.take(0, 3), 2);
        due("holders(1)", x.holders(1), 1);
        due("take(0, 0)", x.take(0, 0), 2);
        due("item(0, 0)", x.item(0, 0), 2);
    }

    private static void takeLetsGo() {
        ThingHeap x = withThings(3);
        due("point(0, 1)", x.point(0, 1), 1);
        due("point(0, 1)", x.point(0, 1), 2);
        due("point(1, 2)", x.point(1, 2), 1);
        due("root(1, -1)", x.root(1, -1), 3);
        due("root(2, -1)", x.root(2, -1), 3);
        due("take(0, 0)", x.take(0, 0), 3);
        due("holders(1)", x.holders(1), 1);
        due("take(0, 0), 1 and 2 go", x.take(0, 0), 1);
        due("holders(1)", x.holders(1), NONE);
        due("holders(2)", x.holders(2), NONE);
        due("items(0)", x.items(0), 0);
    }

    private static void takeMayEndItsOwnThing() {
        ThingHeap x = withThings(3);
        due("point(0, 1)", x.point(0, 1), 1);
        due("point(0, 2)", x.point(0, 2), 2);
        due("point(1, 0)", x.point(1, 0), 1);
        due("root(0, -1)", x.root(0, -1), 3);
        due("root(1, -1)", x.root(1, -1), 3);
        due("holders(2)", x.holders(2), 2);
        due("take(0, 0), 1 goes and 0 with it", x.take(0, 0), 1);
        due("holders(2)", x.holders(2), 1);
        due("items(0)", x.items(0), NONE);
    }

    private static void takeAnswersWrongInputs() {
        ThingHeap x = withThings(2);
        due("take(0, 0)", x.take(0, 0), NONE);
        due("note(0, 1)", x.note(0, 1), 1);
        int[] places = {-1, 1, 300, Integer.MIN_VALUE, Integer.MAX_VALUE};
        for (int k : places) {
            due("take(0, " + k + ")", x.take(0, k), NONE);
        }
        due("take(-1, 0)", x.take(-1, 0), NONE);
        for (int object : WRONG_NUMBERS) {
            due("take(" + object + ", 0)", x.take(object, 0), NONE);
        }
        due("items(0)", x.items(0), 1);
    }

    private static void itemTellsIntsAndThings() {
        ThingHeap x = withThings(2);
        due("note(1, -2147483648)", x.note(1, Integer.MIN_VALUE), 1);
        due("note(1, 2147483647)", x.note(1, Integer.MAX_VALUE), 2);
        due("point(1, 0)", x.point(1, 0), 3);
        due("point(1, 1)", x.point(1, 1), 4);
        due("item(1, 0)", x.item(1, 0), -2147483648L);
        due("item(1, 1)", x.item(1, 1), 2147483647L);
        due("item(1, 2)", x.item(1, 2), 1099511627776L);
        due("item(1, 3)", x.item(1, 3), 1099511627777L);
        due("item(1, 4)", x.item(1, 4), 2199023255552L);
    }

    private static void itemAnswersWrongInputs() {
        ThingHeap x = withThings(2);
        due("note(0, 1)", x.note(0, 1), 1);
        int[] places = {-1, 1, 300, Integer.MIN_VALUE, Integer.MAX_VALUE};
        for (int k : places) {
            due("item(0, " + k + ")", x.item(0, k), NO_ITEM);
        }
        due("item(-1, 0)", x.item(-1, 0), NO_ITEM);
        for (int object : WRONG_NUMBERS) {
            due("item(" + object + ", 0)", x.item(object, 0), NO_ITEM);
        }
        due("root(0, -1)", x.root(0, -1), 1);
        due("item(0, 0)", x.item(0, 0), NO_ITEM);
    }

    private static void heldTellsTheRootsThing() {
        ThingHeap x = new ThingHeap();
        due("make(15)", x.make(15), 0);
        due("make(3)", x.make(3), 1);
        due("held(15)", x.held(15), 0);
        due("held(3)", x.held(3), 1);
        due("held(0)", x.held(0), NONE);
        due("root(3, 0)", x.root(3, 0), 1);
        due("held(3)", x.held(3), 0);
        due("root(15, -1)", x.root(15, -1), 1);
        due("held(15)", x.held(15), NONE);
        for (int r : WRONG_ROOTS) {
            due("held(" + r + ")", x.held(r), REFUSED);
        }
    }

    private static void holdersCountsEveryHold() {
        ThingHeap x = withThings(2);
        due("root(5, 0)", x.root(5, 0), 2);
        due("point(0, 0)", x.point(0, 0), 1);
        due("point(1, 0)", x.point(1, 0), 1);
        due("point(1, 0)", x.point(1, 0), 2);
        due("note(1, 0)", x.note(1, 0), 3);
        due("holders(0)", x.holders(0), 5);
        due("holders(1)", x.holders(1), 1);
        due("root(1, -1), 1 goes", x.root(1, -1), 1);
        due("holders(0)", x.holders(0), 3);
        due("holders(1)", x.holders(1), NONE);
        due("holders(-1)", x.holders(-1), NONE);
        for (int object : WRONG_NUMBERS) {
            due("holders(" + object + ")", x.holders(object), NONE);
        }
    }

    private static void holdersCountsUnreachedHolders() {
        ThingHeap x = withThings(2);
        due("point(0, 0)", x.point(0, 0), 1);
        due("point(0, 1)", x.point(0, 1), 2);
        due("root(0, -1)", x.root(0, -1), 2);
        due("holders(0)", x.holders(0), 1);
        due("holders(1)", x.holders(1), 2);
        due("root(4, 0), reached again", x.root(4, 0), 2);
        due("holders(0)", x.holders(0), 2);
    }

    private static void itemsCountsIntsAndThings() {
        ThingHeap x = withThings(2);
        due("items(0)", x.items(0), 0);
        due("note(0, 1)", x.note(0, 1), 1);
        due("point(0, 1)", x.point(0, 1), 2);
        due("items(0)", x.items(0), 2);
        due("turn(0, 0, 1)", x.turn(0, 0, 1), 2);
        due("items(0)", x.items(0), 2);
        due("take(0, 0)", x.take(0, 0), 2);
        due("items(0)", x.items(0), 1);
        due("items(1)", x.items(1), 0);
        due("items(-1)", x.items(-1), NONE);
        for (int object : WRONG_NUMBERS) {
            due("items(" + object + ")", x.items(object), NONE);
        }
        due("root(0, -1)", x.root(0, -1), 1);
        due("items(0)", x.items(0), NONE);
    }

    private static void collectOfNothing() {
        ThingHeap x = withThings(16);
        due("collect()", x.collect(), 0);
        due("count(0)", x.count(0), 16);
        due("root(0, -1)", x.root(0, -1), 15);
        due("collect() of what went already", x.collect(), 0);
    }

    private static void collectTakesCycles() {
        ThingHeap x = withThings(4);
        due("point(0, 0)", x.point(0, 0), 1);
        due("point(1, 2)", x.point(1, 2), 1);
        due("point(2, 1)", x.point(2, 1), 1);
        due("point(2, 3)", x.point(2, 3), 2);
        for (int r = 0; r < 4; r++) {
            due("root(" + r + ", -1)", x.root(r, -1), 4);
        }
        due("collect()", x.collect(), 4);
        due("count(0)", x.count(0), 0);
        due("count(1)", x.count(1), 4);
        for (int n = 0; n < 4; n++) {
            due("items(" + n + ")", x.items(n), NONE);
        }
        due("collect() again", x.collect(), 0);
        due("make(0)", x.make(0), 4);
        due("collect()", x.collect(), 0);
    }

    private static void collectKeepsWhatAnyRootReaches() {
        ThingHeap x = withThings(5);
        due("point(0, 1)", x.point(0, 1), 1);
        due("note(1, 4)", x.note(1, 4), 1);
        due("point(1, 2)", x.point(1, 2), 2);
        due("point(2, 0)", x.point(2, 0), 1);
        due("point(3, 4)", x.point(3, 4), 1);
        due("point(4, 3)", x.point(4, 3), 1);
        for (int r = 0; r < 5; r++) {
            due("root(" + r + ", -1)", x.root(r, -1), 5);
        }
        due("root(15, 1)", x.root(15, 1), 5);
        due("collect()", x.collect(), 2);
        due("item(1, 1)", x.item(1, 1), THING + 2);
        due("item(2, 0)", x.item(2, 0), THING);
        due("holders(1)", x.holders(1), 2);
        due("holders(3)", x.holders(3), NONE);
        due("holders(4)", x.holders(4), NONE);
        due("root(15, -1)", x.root(15, -1), 3);
        due("collect(), reached the last time only", x.collect(), 3);
    }

    private static void collectReleasesWhatStays() {
        ThingHeap x = withThings(2);
        due("point(0, 0)", x.point(0, 0), 1);
        due("point(0, 1)", x.point(0, 1), 2);
        due("point(0, 1)", x.point(0, 1), 3);
        due("root(0, -1)", x.root(0, -1), 2);
        due("holders(1)", x.holders(1), 3);
        due("collect()", x.collect(), 1);
        due("holders(1)", x.holders(1), 1);
        due("root(1, -1)", x.root(1, -1), 0);
    }

    private static void collectFollowsLongChains() {
        ThingHeap x = new ThingHeap();
        int length = 120;
        due("make(0)", x.make(0), 0);
        due("root(2, 0)", x.root(2, 0), 1);
        for (int n = 1; n < length; n++) {
            due("make(1)", x.make(1), n);
            due("point", x.point(n - 1, n), 1);
        }
        due("point back", x.point(length - 1, 0), 1);
        due("root(1, -1)", x.root(1, -1), length);
        due("root(0, -1)", x.root(0, -1), length);
        due("collect()", x.collect(), 0);
        due("root(2, -1)", x.root(2, -1), length);
        due("collect()", x.collect(), length);
    }

    private static void countTellsExistingAndMade() {
        ThingHeap x = withThings(3);
        due("make(0)", x.make(0), 3);
        due("count(0)", x.count(0), 3);
        due("count(1)", x.count(1), 4);
        due("make(16)", x.make(16), REFUSED);
        due("count(1)", x.count(1), 4);
        int[] others = {-1, 2, 3, Integer.MIN_VALUE, Integer.MAX_VALUE};
        for (int what : others) {
            due("count(" + what + ")", x.count(what), REFUSED);
        }
    }
}
