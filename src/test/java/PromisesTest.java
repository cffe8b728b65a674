import java.util.function.Consumer;

/** Each promise of the document by hand: ordinary inputs, the edges it names, wrong inputs. */
public final class PromisesTest {
    private static final int NONE = ThreeCompactors.NONE;
    private static final int[] NO_ROOTS = {-1, 8, Integer.MIN_VALUE, Integer.MAX_VALUE};

    public static void main(String[] args) {
        newObject();
        allocate();
        allocateRefuses();
        claim();
        claimRefuses();
        compactSlides();
        compactByTwoFingers();
        compactKeepsReferences();
        compactEndsWeakReferences();
        compactRefuses();
        copy();
        clear();
        put();
        refer();
        follow();
        followRefuses();
        kind();
        serialAndAddress();
        word();
        countsAndTop();
        alive();
        Check.end("PromisesTest");
    }

    /** Root 0: an object with two fields; root 1: one with one field; root 2: one with none. */
    private static void three(ThreeCompactors x) {
        x.allocate(0, 2);
        x.allocate(1, 1);
        x.allocate(2, 0);
    }

    /** 32 objects of 8 words, all of which but the last one no root has. */
    private static void full(ThreeCompactors x) {
        for (int i = 0; i < 32; i++) {
            x.allocate(0, 6);
        }
    }

    /** A chain of 32 objects of 8 words, all alive: root 0 has the last one. */
    private static void fullAndAlive(ThreeCompactors x) {
        for (int i = 0; i < 32; i++) {
            x.allocate(1, 6);
            x.refer(1, 5, 0, false);
            x.copy(0, 1);
        }
    }

    private static void newObject() {
        ThreeCompactors x = new ThreeCompactors();
        Check.same("new top", 0, x.top());
        Check.same("new objects", 0, x.objects());
        Check.same("new alive", 0, x.alive());
        for (int r = 0; r < 8; r++) {
            Check.same("new serial " + r, NONE, x.serial(r));
            Check.same("new address " + r, NONE, x.address(r));
        }
        for (int a = 0; a < 256; a++) {
            Check.same("new word " + a, 0, x.word(a));
        }
        for (int way = 0; way <= 2; way++) {
            Check.same("new compact " + way, 0, x.compact(way));
        }
        x.allocate(3, 1);
        Check.same("another object has its own heap", 0, new ThreeCompactors().top());
    }

    private static void allocate() {
        ThreeCompactors x = new ThreeCompactors();
        int place = 0;
        for (int fields = 0; fields <= 6; fields++) {
            Check.same("allocate " + fields, fields + 1, x.allocate(7 - fields, fields));
            Check.same("its address", place, x.address(7 - fields));
            Check.same("its head", fields, x.word(place));
            Check.same("its serial", fields + 1, x.word(place + 1));
            for (int k = 0; k < fields; k++) {
                Check.same("its field " + k, 0, x.word(place + 2 + k));
                Check.same("its kind " + k, 0, x.kind(7 - fields, k));
            }
            place += fields + 2;
            Check.same("the top behind it", place, x.top());
        }
        Check.same("a root that has an object gets the new one", 8, x.allocate(7, 0));
        Check.same("a root's new object", 8, x.serial(7));
        Check.same("the old one stays in the heap", 8, x.objects());
        allocateToTheLastWord();
        allocateOverOldWords();
    }

    private static void allocateToTheLastWord() {
        ThreeCompactors x = Check.made(PromisesTest::full);
        Check.same("32 objects of 8 words fill the heap", 256, x.top());
        ThreeCompactors small = new ThreeCompactors();
        for (int i = 1; i <= 128; i++) {
            Check.same("small object", i, small.allocate(i % 8, 0));
        }
        Check.same("128 objects of 2 words fill the heap", 256, small.top());
        Check.same("128 objects", 128, small.objects());
        Check.same("8 of them alive", 8, small.alive());
    }

    private static void allocateOverOldWords() {
        ThreeCompactors x = new ThreeCompactors();
        x.allocate(0, 3);
        x.put(0, 0, 77);
        x.put(0, 1, 78);
        x.refer(0, 2, 0, false);
        x.clear(0);
        x.compact(0);
        Check.same("serials go on after a compaction", 2, x.allocate(0, 3));
        Check.same("the fields are new", "3 2 0 0 0", Check.words(x));
    }

    private static void allocateRefuses() {
        for (int r : NO_ROOTS) {
            Check.refused("allocate root " + r, Check.NO_INDEX, PromisesTest::three, x -> x.allocate(r, 1));
            Check.refused("allocate root before fields", Check.NO_INDEX, PromisesTest::three, x -> x.allocate(r, 7));
            Check.refused("allocate root before room", Check.NO_INDEX, PromisesTest::full, x -> x.allocate(r, 6));
        }
        for (int fields : new int[] {-1, -2, 7, 16, Integer.MIN_VALUE, Integer.MAX_VALUE}) {
            Check.refused("allocate fields " + fields, Check.BAD_ARGUMENT, PromisesTest::three,
                x -> x.allocate(0, fields));
            Check.refused("allocate fields before room", Check.BAD_ARGUMENT, PromisesTest::full,
                x -> x.allocate(0, fields));
        }
        Check.refused("allocate in a full heap", Check.BAD_STATE, PromisesTest::full, x -> x.allocate(3, 0));
        Consumer<ThreeCompactors> allButFour = x -> {
            for (int i = 0; i < 31; i++) {
                x.allocate(0, 6);
            }
            x.allocate(1, 2);
        };
        Check.refused("allocate one word too many", Check.BAD_STATE, allButFour, x -> x.allocate(3, 3));
        ThreeCompactors x = Check.made(allButFour);
        Check.same("allocate what just fits", 33, x.allocate(3, 2));
        Check.same("the top then", 256, x.top());
    }

    private static void claim() {
        for (int way = 0; way <= 2; way++) {
            ThreeCompactors roomy = Check.made(PromisesTest::three);
            roomy.clear(1);
            Check.same("claim with room", 4, roomy.claim(3, 1, way));
            Check.same("does not compact", "1 2 3 4", Check.serials(roomy));

            ThreeCompactors x = Check.made(PromisesTest::full);
            Check.same("claim in a full heap", 33, x.claim(1, 4, way));
            Check.same("claim compacts", "32 33", Check.serials(x));
            Check.same("claim's top", 14, x.top());
            Check.same("claim's object", 8, x.address(1));
            Check.same("claim's head", 4, x.word(8));
        }
        claimForARootThatHasAnObject();
        claimByWayOneMoves();
        claimJustFits();
    }

    private static void claimForARootThatHasAnObject() {
        ThreeCompactors x = Check.made(PromisesTest::full);
        x.claim(0, 6, 0);
        Check.same("the root's old object is alive while compacting", "32 33", Check.serials(x));
        Check.same("the root has the new one", 33, x.serial(0));
        Check.same("the old one is no more alive then", 1, x.alive());
    }

    private static void claimByWayOneMoves() {
        Consumer<ThreeCompactors> before = x -> {
            for (int i = 0; i < 32; i++) {
                x.allocate(i < 28 ? 7 : i - 28, 6);
            }
            x.clear(7);
        };
        ThreeCompactors byOne = Check.made(before);
        byOne.claim(6, 0, 1);
        Check.same("claim by way 1", "32 31 30 29 33", Check.serials(byOne));
        ThreeCompactors byTwo = Check.made(before);
        byTwo.claim(6, 0, 2);
        Check.same("claim by way 2", "29 30 31 32 33", Check.serials(byTwo));
    }

    private static void claimJustFits() {
        ThreeCompactors x = Check.made(y -> {
            for (int i = 0; i < 31; i++) {
                y.allocate(0, 6);
            }
        });
        Check.same("claim what just fits", 32, x.claim(1, 6, 0));
        Check.same("needs no compaction", 32, x.objects());
        Check.same("claim one too many", 33, x.claim(2, 0, 0));
        Check.same("needs one", 3, x.objects());
    }

    private static void claimRefuses() {
        for (int r : NO_ROOTS) {
            Check.refused("claim root " + r, Check.NO_INDEX, PromisesTest::full, x -> x.claim(r, 6, 0));
            Check.refused("claim root first", Check.NO_INDEX, PromisesTest::full, x -> x.claim(r, 7, 3));
        }
        for (int bad : new int[] {-1, Integer.MIN_VALUE, Integer.MAX_VALUE}) {
            Check.refused("claim fields", Check.BAD_ARGUMENT, PromisesTest::full, x -> x.claim(0, bad, 0));
            Check.refused("claim way", Check.BAD_ARGUMENT, PromisesTest::full, x -> x.claim(0, 0, bad));
            Check.refused("claim way with room", Check.BAD_ARGUMENT, PromisesTest::three, x -> x.claim(0, 0, bad));
        }
        Check.refused("claim 7 fields", Check.BAD_ARGUMENT, PromisesTest::full, x -> x.claim(0, 7, 0));
        Check.refused("claim way 3", Check.BAD_ARGUMENT, PromisesTest::full, x -> x.claim(0, 6, 3));
        Check.refused("claim way 3 with room", Check.BAD_ARGUMENT, PromisesTest::three, x -> x.claim(0, 6, 3));
        claimRefusesWayOne();
        claimStaysCompacted();
    }

    private static void claimRefusesWayOne() {
        Consumer<ThreeCompactors> mixed = x -> {
            x.allocate(0, 4);
            x.allocate(0, 0);
            for (int i = 0; i < 31; i++) {
                x.allocate(0, 6);
            }
        };
        Check.refused("claim by way 1 with sizes that differ", Check.UNSUPPORTED, mixed, x -> x.claim(1, 0, 1));
        ThreeCompactors roomy = Check.made(PromisesTest::three);
        Check.same("claim by way 1 with room", 4, roomy.claim(1, 6, 1));
    }

    private static void claimStaysCompacted() {
        for (int way = 0; way <= 2; way++) {
            int by = way;
            Check.refused("claim with all alive", Check.BAD_STATE, PromisesTest::fullAndAlive, x -> x.claim(2, 0, by));
        }
        Consumer<ThreeCompactors> almost = x -> {
            for (int i = 0; i < 31; i++) {
                x.allocate(1, 6);
                x.refer(1, 5, 0, false);
                x.copy(0, 1);
            }
            x.allocate(2, 2);
            x.allocate(3, 2);
            x.put(3, 0, 5);
            x.clear(2);
        };
        ThreeCompactors x = Check.made(almost);
        Check.same("claim that doesn't fit after compacting", Check.BAD_STATE,
            Check.thrownBy(x, y -> y.claim(2, 3, 0)));
        Check.same("it stays compacted", 252, x.top());
        Check.same("an object less", 32, x.objects());
        Check.same("the last one moved", 248, x.address(3));
        Check.same("with what it has", 5, x.word(250));
        Check.same("the root has what it had", NONE, x.serial(2));
        Check.same("the serial was not used", 34, x.claim(2, 2, 0));
    }

    private static void compactSlides() {
        for (int way = 0; way <= 2; way += 2) {
            ThreeCompactors x = new ThreeCompactors();
            for (int r = 0; r < 7; r++) {
                x.allocate(r, r);
            }
            x.put(6, 5, 99);
            x.clear(0);
            x.clear(2);
            x.clear(5);
            Check.same("compact answers how much lower the top is", 2 + 4 + 7, x.compact(way));
            Check.same("the order stays", "2 4 5 7", Check.serials(x));
            Check.same("root 1", 0, x.address(1));
            Check.same("root 3", 3, x.address(3));
            Check.same("root 4", 8, x.address(4));
            Check.same("root 6", 14, x.address(6));
            Check.same("top", 22, x.top());
            Check.same("the last word moved", 99, x.word(21));
            for (int a = 22; a < 256; a++) {
                Check.same("words behind the top " + a, 0, x.word(a));
            }
            Check.same("nothing to do", 0, x.compact(way));
            Check.same("objects", 4, x.objects());
        }
    }

    private static void compactByTwoFingers() {
        ThreeCompactors x = sevenOfOneSize();
        x.clear(0);
        x.clear(2);
        x.clear(3);
        Check.same("way 1 answers how much lower the top is", 9, x.compact(1));
        Check.same("the last ones fill the first places", "7 2 6 5", Check.serials(x));
        Check.same("root 6", 0, x.address(6));
        Check.same("root 1 stays", 3, x.address(1));
        Check.same("root 5", 6, x.address(5));
        Check.same("root 4", 9, x.address(4));
        Check.same("their fields go along", "1 7 106 1 2 101 1 6 105 1 5 104", Check.words(x));
        for (int a = 12; a < 30; a++) {
            Check.same("words behind the top " + a, 0, x.word(a));
        }

        ThreeCompactors first = sevenOfOneSize();
        first.clear(5);
        first.clear(6);
        Check.same("the last ones go", 6, first.compact(1));
        Check.same("the first ones stay", "1 2 3 4 5", Check.serials(first));
        ThreeCompactors middle = sevenOfOneSize();
        middle.clear(1);
        middle.clear(6);
        middle.compact(1);
        Check.same("one that is not alive at the end is passed over", "1 6 3 4 5", Check.serials(middle));
        ThreeCompactors none = sevenOfOneSize();
        Check.same("all alive: nothing to do", 0, none.compact(1));
        Check.same("all alive: all stay", "1 2 3 4 5 6 7", Check.serials(none));
        for (int r = 0; r < 7; r++) {
            none.clear(r);
        }
        Check.same("none alive", 21, none.compact(1));
        Check.same("none alive: empty", 0, none.objects());
    }

    private static ThreeCompactors sevenOfOneSize() {
        ThreeCompactors x = new ThreeCompactors();
        for (int r = 0; r < 7; r++) {
            x.allocate(r, 1);
            x.put(r, 0, 100 + r);
        }
        return x;
    }

    private static void compactKeepsReferences() {
        for (int way = 0; way <= 2; way++) {
            ThreeCompactors x = new ThreeCompactors();
            for (int r = 0; r < 6; r++) {
                x.allocate(r, 3);
            }
            // a ring of 3 and 6, a number that looks like an address, a reference to nothing
            x.refer(2, 0, 5, false);
            x.refer(5, 0, 2, false);
            x.put(5, 1, 10);
            x.refer(5, 2, 7, false);
            x.refer(4, 0, 4, false);
            x.refer(4, 1, 2, true);
            x.refer(4, 2, 7, true);
            x.copy(6, 4);
            for (int r : new int[] {0, 1, 2, 3, 5}) {
                x.clear(r);
            }
            x.refer(4, 0, 4, false);
            x.allocate(2, 3);
            x.refer(2, 2, 4, false);
            Check.same("the ring is not alive", 2, x.alive());
            Check.same("way " + way, 25, x.compact(way));
            boolean slid = way != 1;
            Check.same("order, way " + way, slid ? "5 7" : "7 5", Check.serials(x));
            int five = slid ? 0 : 5;
            Check.same("roots that have one object go on to", true, x.address(4) == five && x.address(6) == five);
            Check.same("a reference to itself", five, x.word(five + 2));
            Check.same("a weak one to one that went", NONE, x.word(five + 3));
            Check.same("a weak one to nothing", NONE, x.word(five + 4));
            Check.same("its head", 3 + 16 + 1024 * 6, x.word(five));
            Check.same("a strong one", five, x.word(5 - five + 4));
            Check.same("numbers stay", 0, x.word(5 - five + 2));
        }
        compactKeepsRings();
    }

    private static void compactKeepsRings() {
        for (int way = 0; way <= 2; way++) {
            ThreeCompactors x = new ThreeCompactors();
            x.allocate(0, 2);
            x.allocate(1, 2);
            x.allocate(2, 2);
            x.refer(1, 0, 2, false);
            x.refer(2, 1, 1, false);
            x.put(2, 0, 8);
            x.put(1, 1, -1);
            x.clear(0);
            x.clear(1);
            x.compact(way);
            boolean slid = way != 1;
            Check.same("a ring, way " + way,
                slid ? "18 2 4 -1 34 3 8 0" : "34 3 8 4 18 2 0 -1", Check.words(x));
            Check.same("its root", slid ? 4 : 0, x.address(2));
        }
    }

    private static void compactEndsWeakReferences() {
        for (int way = 0; way <= 2; way++) {
            ThreeCompactors x = new ThreeCompactors();
            x.allocate(0, 2);
            x.allocate(1, 2);
            x.allocate(2, 2);
            x.refer(2, 0, 0, true);
            x.refer(2, 1, 1, true);
            x.refer(1, 0, 0, true);
            x.clear(0);
            Check.same("a weak reference alone keeps nothing alive", 2, x.alive());
            Check.same("until it is compacted it refers on", 0, x.word(10));
            x.compact(way);
            Check.same("then to nothing", NONE, x.word(x.address(2) + 2));
            Check.same("one to an object that is alive goes along", x.address(1), x.word(x.address(2) + 3));
            Check.same("the other object's too", NONE, x.word(x.address(1) + 2));
            Check.same("it is still weak", 2, x.kind(2, 0));
            Check.same("follow it", false, x.follow(2, 0, 5));
        }
    }

    private static void compactRefuses() {
        for (int way : new int[] {-1, 3, Integer.MIN_VALUE, Integer.MAX_VALUE}) {
            Check.refused("compact " + way, Check.BAD_ARGUMENT, PromisesTest::three, x -> x.compact(way));
        }
        Consumer<ThreeCompactors> garbage = x -> {
            three(x);
            x.clear(1);
        };
        Check.refused("compact 1 with sizes that differ", Check.UNSUPPORTED, garbage, x -> x.compact(1));
        Consumer<ThreeCompactors> deadDiffers = x -> {
            x.allocate(0, 2);
            x.allocate(1, 3);
            x.allocate(2, 2);
            x.clear(1);
        };
        Check.refused("compact 1 where one not alive differs", Check.UNSUPPORTED, deadDiffers, x -> x.compact(1));
        Consumer<ThreeCompactors> lastDiffers = x -> {
            x.allocate(0, 2);
            x.allocate(1, 2);
            x.allocate(1, 6);
            x.clear(1);
        };
        Check.refused("compact 1 where the last differs", Check.UNSUPPORTED, lastDiffers, x -> x.compact(1));
        ThreeCompactors x = Check.made(deadDiffers);
        x.compact(0);
        x.clear(0);
        Check.same("compact 1 when the odd one is gone", 4, x.compact(1));
        ThreeCompactors heads = new ThreeCompactors();
        heads.allocate(0, 1);
        heads.allocate(1, 1);
        heads.refer(1, 0, 1, true);
        heads.clear(0);
        Check.same("heads that differ by references are of one size", 3, heads.compact(1));
    }

    private static void copy() {
        ThreeCompactors x = Check.made(PromisesTest::three);
        x.copy(7, 1);
        Check.same("copy", 2, x.serial(7));
        Check.same("copy leaves the other", 2, x.serial(1));
        x.put(7, 0, 9);
        Check.same("copy is the same object", 9, x.word(x.address(1) + 2));
        x.copy(7, 7);
        Check.same("copy to itself", 2, x.serial(7));
        x.copy(7, 6);
        Check.same("copy of nothing", NONE, x.serial(7));
        x.copy(0, 2);
        Check.same("what a root had before is let go", 2, x.alive());
        for (int r : NO_ROOTS) {
            Check.refused("copy to " + r, Check.NO_INDEX, PromisesTest::three, y -> y.copy(r, 0));
            Check.refused("copy from " + r, Check.NO_INDEX, PromisesTest::three, y -> y.copy(0, r));
        }
    }

    private static void clear() {
        ThreeCompactors x = Check.made(PromisesTest::three);
        x.clear(1);
        Check.same("clear", NONE, x.address(1));
        Check.same("clear leaves the heap", 3, x.objects());
        Check.same("clear leaves the others", 3, x.serial(2));
        x.clear(1);
        Check.same("clear again", NONE, x.address(1));
        for (int r : NO_ROOTS) {
            Check.refused("clear " + r, Check.NO_INDEX, PromisesTest::three, y -> y.clear(r));
        }
    }

    private static void put() {
        ThreeCompactors x = Check.made(PromisesTest::three);
        x.put(0, 0, -1);
        x.put(0, 1, Integer.MIN_VALUE);
        x.put(1, 0, Integer.MAX_VALUE);
        Check.same("put", "2 1 -1 -2147483648 1 2 2147483647 0 3", Check.words(x));
        x.refer(0, 0, 1, false);
        x.refer(0, 1, 1, true);
        x.put(0, 0, 4);
        x.put(0, 1, 7);
        Check.same("put over references", "2 1 4 7 1 2 2147483647 0 3", Check.words(x));
        x.clear(1);
        Check.same("put lets go", 2, x.alive());
        x.compact(0);
        Check.same("numbers are no references", "2 1 4 7 0 3", Check.words(x));
        refusesFields("put", (y, r, k) -> y.put(r, k, 5));
    }

    /** A call with a root and a field, which throws as put() does. */
    private interface FieldCall {
        void on(ThreeCompactors x, int r, int k);
    }

    private static void refusesFields(String name, FieldCall call) {
        for (int r : NO_ROOTS) {
            Check.refused(name + " root " + r, Check.NO_INDEX, PromisesTest::three, x -> call.on(x, r, 0));
        }
        for (int k : new int[] {-1, 0, 6}) {
            Check.refused(name + " root has nothing, before field " + k, Check.NO_ELEMENT, PromisesTest::three,
                x -> call.on(x, 3, k));
        }
        for (int k : new int[] {-1, 2, 6, Integer.MIN_VALUE, Integer.MAX_VALUE}) {
            Check.refused(name + " field " + k, Check.NO_INDEX, PromisesTest::three, x -> call.on(x, 0, k));
        }
        Check.refused(name + " field of an object without", Check.NO_INDEX, PromisesTest::three,
            x -> call.on(x, 2, 0));
        Consumer<ThreeCompactors> six = x -> x.allocate(0, 6);
        Check.refused(name + " field 6 of 6", Check.NO_INDEX, six, x -> call.on(x, 0, 6));
    }

    private static void refer() {
        ThreeCompactors x = new ThreeCompactors();
        x.allocate(0, 6);
        x.allocate(1, 0);
        for (int k = 0; k < 6; k++) {
            x.refer(0, k, 1, false);
            Check.same("the head with strong ones to " + k, 6 + 16 * ((2 << k) - 1), x.word(0));
            Check.same("strong, the word", 8, x.word(2 + k));
        }
        for (int k = 0; k < 6; k++) {
            x.refer(0, k, 0, true);
            int weak = (2 << k) - 1;
            Check.same("the head with weak ones to " + k, 6 + 16 * (63 - weak) + 1024 * weak, x.word(0));
            Check.same("weak, the word", 0, x.word(2 + k));
        }
        x.refer(0, 3, 7, false);
        Check.same("strong to nothing", NONE, x.word(5));
        Check.same("strong over weak", 6 + 16 * 8 + 1024 * 55, x.word(0));
        x.refer(0, 4, 7, true);
        Check.same("weak to nothing", NONE, x.word(6));
        Check.same("weak over weak", 6 + 16 * 8 + 1024 * 55, x.word(0));
        refusesFields("refer", (y, r, k) -> y.refer(r, k, 1, true));
        refusesFields("refer to nothing", (y, r, k) -> y.refer(r, k, 5, false));
        for (int q : NO_ROOTS) {
            Check.refused("refer to " + q, Check.NO_INDEX, PromisesTest::three, y -> y.refer(0, 0, q, false));
            Check.refused("refer to " + q + " before nothing", Check.NO_INDEX, PromisesTest::three,
                y -> y.refer(4, 0, q, false));
        }
    }

    private static void follow() {
        ThreeCompactors x = Check.made(PromisesTest::three);
        x.refer(0, 0, 1, false);
        x.refer(0, 1, 2, true);
        Check.same("follow strong", true, x.follow(0, 0, 5));
        Check.same("it has it", 2, x.serial(5));
        Check.same("follow weak", true, x.follow(0, 1, 6));
        Check.same("it has it too", 3, x.serial(6));
        x.refer(0, 0, 7, false);
        Check.same("follow to nothing", false, x.follow(0, 0, 5));
        Check.same("it has nothing", NONE, x.serial(5));
        x.clear(2);
        x.clear(6);
        Check.same("one that is not alive", 2, x.alive());
        Check.same("follow a weak one to it", true, x.follow(0, 1, 6));
        Check.same("it is alive again", 3, x.alive());
        Check.same("follow into the same root", true, x.follow(0, 1, 0));
        Check.same("the root went on", 3, x.serial(0));
    }

    private static void followRefuses() {
        refusesFields("follow", (y, r, k) -> y.follow(r, k, 1));
        for (int q : NO_ROOTS) {
            Check.refused("follow into " + q, Check.NO_INDEX, PromisesTest::three, y -> y.follow(0, 0, q));
            Check.refused("follow into " + q + " before nothing", Check.NO_INDEX, PromisesTest::three,
                y -> y.follow(4, 0, q));
        }
        Check.refused("follow a number", Check.BAD_STATE, PromisesTest::three, y -> y.follow(0, 1, 1));
        Consumer<ThreeCompactors> minusOne = x -> {
            three(x);
            x.refer(0, 0, 1, false);
            x.put(0, 0, -1);
        };
        Check.refused("follow the number -1", Check.BAD_STATE, minusOne, y -> y.follow(0, 0, 1));
    }

    private static void kind() {
        ThreeCompactors x = Check.made(PromisesTest::three);
        Check.same("kind of a new field", 0, x.kind(0, 1));
        x.refer(0, 1, 1, false);
        Check.same("kind strong", 1, x.kind(0, 1));
        x.refer(0, 1, 1, true);
        Check.same("kind weak", 2, x.kind(0, 1));
        Check.same("kind of the other field", 0, x.kind(0, 0));
        x.refer(0, 1, 7, false);
        Check.same("kind strong to nothing", 1, x.kind(0, 1));
        x.refer(0, 1, 7, true);
        Check.same("kind weak to nothing", 2, x.kind(0, 1));
        x.put(0, 1, -1);
        Check.same("kind of a number", 0, x.kind(0, 1));
        refusesFields("kind", (y, r, k) -> y.kind(r, k));
    }

    private static void serialAndAddress() {
        ThreeCompactors x = Check.made(PromisesTest::three);
        Check.same("serial 0", 1, x.serial(0));
        Check.same("serial 2", 3, x.serial(2));
        Check.same("serial of nothing", NONE, x.serial(3));
        Check.same("address 0", 0, x.address(0));
        Check.same("address 2", 7, x.address(2));
        Check.same("address of nothing", NONE, x.address(3));
        x.clear(0);
        x.compact(2);
        Check.same("serials stay", 3, x.serial(2));
        Check.same("addresses change", 3, x.address(2));
        for (int r : NO_ROOTS) {
            Check.refused("serial " + r, Check.NO_INDEX, PromisesTest::three, y -> y.serial(r));
            Check.refused("address " + r, Check.NO_INDEX, PromisesTest::three, y -> y.address(r));
        }
    }

    private static void word() {
        ThreeCompactors x = Check.made(PromisesTest::full);
        x.put(0, 5, 1234);
        Check.same("the first word", 6, x.word(0));
        Check.same("the last word", 1234, x.word(255));
        Check.same("a word from the top on", 0, new ThreeCompactors().word(255));
        for (int a : new int[] {-1, 256, Integer.MIN_VALUE, Integer.MAX_VALUE}) {
            Check.refused("word " + a, Check.NO_INDEX, PromisesTest::full, y -> y.word(a));
        }
    }

    private static void countsAndTop() {
        ThreeCompactors x = Check.made(PromisesTest::three);
        Check.same("top", 9, x.top());
        Check.same("objects", 3, x.objects());
        x.clear(0);
        Check.same("top counts those not alive", 9, x.top());
        Check.same("objects counts those not alive", 3, x.objects());
        Check.same("alive doesn't", 2, x.alive());
        x.compact(0);
        Check.same("top after compacting", 5, x.top());
        Check.same("objects after compacting", 2, x.objects());
        Check.same("alive after compacting", 2, x.alive());
    }

    private static void alive() {
        ThreeCompactors chain = Check.made(PromisesTest::fullAndAlive);
        chain.clear(1);
        Check.same("a chain from one root", 32, chain.alive());
        Check.same("asking again", 32, chain.alive());
        chain.put(0, 5, 0);
        Check.same("a chain that is cut", 1, chain.alive());

        ThreeCompactors x = new ThreeCompactors();
        x.allocate(0, 1);
        x.allocate(1, 1);
        x.refer(0, 0, 1, false);
        x.refer(1, 0, 0, false);
        x.copy(2, 0);
        Check.same("objects that two roots have count once", 2, x.alive());
        x.clear(0);
        x.clear(1);
        Check.same("a ring that a root has", 2, x.alive());
        x.clear(2);
        Check.same("a ring that no root has", 0, x.alive());
        x.allocate(0, 1);
        x.allocate(1, 1);
        x.allocate(2, 0);
        x.refer(0, 0, 1, true);
        x.refer(1, 0, 2, false);
        x.clear(1);
        x.clear(2);
        Check.same("nothing is alive through a weak reference", 1, x.alive());
    }
}
