import java.util.ArrayList;
import java.util.List;
import java.util.function.Consumer;

/** What the document says of compacting, by each of the three ways, in compact() and in claim(). */
public final class CompactionTest {
    private static final int NONE = ThreeCompactors.NONE;
    private static final int LEAST = Integer.MIN_VALUE;
    private static final int MOST = Integer.MAX_VALUE;
    private static final int[] SLIDING_WAYS = {0, 2};

    public static void main(String[] args) {
        places();
        references();
        edges();
        claims();
        everyMixture();
        Check.end("CompactionTest");
    }

    // ---- who stands where

    /** Objects 1 to 6, of 4 words, which roots 0 to 5 have; those named dead are taken from their roots. */
    private static ThreeCompactors six(int... dead) {
        ThreeCompactors x = new ThreeCompactors();
        for (int r = 0; r < 6; r++) {
            x.allocate(r, 2);
            x.put(r, 0, 10 * (r + 1));
            x.put(r, 1, r % 2 == 0 ? LEAST + r : MOST - r);
        }
        for (int serial : dead) {
            x.clear(serial - 1);
        }
        return x;
    }

    private static void places() {
        Check.sentence("no object alive", () -> place("", "", 1, 2, 3, 4, 5, 6));
        Check.sentence("all alive", () -> place("1 2 3 4 5 6", "1 2 3 4 5 6"));
        Check.sentence("a gap at the front", () -> {
            place("2 3 4 5 6", "6 2 3 4 5", 1);
            place("3 4 5 6", "6 5 3 4", 1, 2);
            place("5 6", "6 5", 1, 2, 3, 4);
            place("6", "6", 1, 2, 3, 4, 5);
        });
        Check.sentence("a gap in the middle", () -> {
            place("1 2 4 5 6", "1 2 6 4 5", 3);
            place("1 2 5 6", "1 2 6 5", 3, 4);
            place("1 6", "1 6", 2, 3, 4, 5);
        });
        Check.sentence("a gap at the end", () -> {
            place("1 2 3 4 5", "1 2 3 4 5", 6);
            place("1 2 3 4", "1 2 3 4", 5, 6);
            place("1", "1", 2, 3, 4, 5, 6);
        });
        Check.sentence("several gaps", () -> {
            place("2 3 4 5", "5 2 3 4", 1, 6);
            place("2 4 6", "6 2 4", 1, 3, 5);
            place("1 3 5", "1 5 3", 2, 4, 6);
            place("3 4", "4 3", 1, 2, 5, 6);
            place("1 2 6", "1 2 6", 3, 4, 5);
            place("2 5 6", "6 2 5", 1, 3, 4);
        });
    }

    /** The serials by addresses that are due by ways 0 and 2, and by way 1. */
    private static void place(String bySliding, String byWayOne, int... dead) {
        for (int way = 0; way <= 2; way++) {
            ThreeCompactors x = six(dead);
            String what = "way " + way + " without " + java.util.Arrays.toString(dead);
            Check.same(what + ": objects before", 6, x.objects());
            Check.same(what + ": answers", 4 * dead.length, x.compact(way));
            Check.same(what + ": serials", way == 1 ? byWayOne : bySliding, Check.serials(x));
            Check.same(what + ": top", 24 - 4 * dead.length, x.top());
            Check.same(what + ": objects", 6 - dead.length, x.objects());
            Check.same(what + ": alive", 6 - dead.length, x.alive());
            Check.zeroFromTheTopOn(what, x);
            sixGoAlong(what, x, dead);
        }
    }

    private static void sixGoAlong(String what, ThreeCompactors x, int... dead) {
        List<Integer> gone = new ArrayList<>();
        for (int serial : dead) {
            gone.add(serial);
        }
        for (int r = 0; r < 8; r++) {
            if (r > 5 || gone.contains(r + 1)) {
                Check.same(what + ": root " + r + " has nothing", NONE, x.address(r));
                continue;
            }
            int a = x.address(r);
            Check.same(what + ": root " + r + " has its object", r + 1, x.serial(r));
            Check.same(what + ": with all that it has",
                "2 " + (r + 1) + " " + 10 * (r + 1) + " " + (r % 2 == 0 ? LEAST + r : MOST - r),
                Check.words(x, a, a + 4));
        }
    }

    // ---- references

    private static void references() {
        Check.sentence("references to the object itself", CompactionTest::toItself);
        Check.sentence("references in rings", CompactionTest::rings);
        Check.sentence("weak references to objects that are not alive come to refer to nothing",
            CompactionTest::weakToWhatIsNotAlive);
        Check.sentence("strong references of what is not alive keep nothing", CompactionTest::strongOfTheDead);
        Check.sentence("references to nothing stay so", CompactionTest::toNothing);
        Check.sentence("references go on to refer to the same objects", CompactionTest::allKindsAndFields);
        Check.sentence("numbers are not changed", CompactionTest::numbers);
        Check.sentence("roots go on to refer to the same objects", CompactionTest::rootsGoAlong);
        Check.sentence("what is followed before is alive", CompactionTest::followedBefore);
    }

    private static void toItself() {
        for (int way = 0; way <= 2; way++) {
            ThreeCompactors x = new ThreeCompactors();
            x.allocate(0, 2);
            x.allocate(1, 2);
            x.refer(0, 0, 0, false);
            x.refer(0, 1, 0, true);
            x.refer(1, 0, 1, false);
            x.refer(1, 1, 1, true);
            x.clear(0);
            Check.same("it keeps itself not alive, way " + way, 4, x.compact(way));
            Check.same("the other, way " + way, "2066 2 0 0", Check.words(x));
            Check.same("nothing to do, way " + way, 0, x.compact(way));
            Check.same("as it was, way " + way, "2066 2 0 0", Check.words(x));
            x.clear(1);
            Check.same("it goes, way " + way, 4, x.compact(way));
        }
    }

    /** Objects 2, 3 and 5 in a ring, 1 and 4 in another: one of the two has a root. */
    private static void rings() {
        for (int way = 0; way <= 2; way++) {
            ThreeCompactors x = Check.made(CompactionTest::twoRings);
            x.copy(7, 2);
            clearFirstFive(x);
            Check.same("the ring of three, way " + way, 6, x.compact(way));
            Check.same("words, way " + way,
                way == 1 ? "17 5 3 17 2 6 17 3 0" : "17 2 3 17 3 6 17 5 0", Check.words(x));
            Check.same("root, way " + way, way == 1 ? 6 : 3, x.address(7));

            ThreeCompactors y = Check.made(CompactionTest::twoRings);
            y.copy(7, 3);
            clearFirstFive(y);
            Check.same("the ring of two, way " + way, 9, y.compact(way));
            Check.same("words of two, way " + way, "17 1 3 17 4 0", Check.words(y));

            ThreeCompactors none = Check.made(CompactionTest::twoRings);
            clearFirstFive(none);
            Check.same("no ring, way " + way, 15, none.compact(way));
            Check.same("none there, way " + way, 0, none.objects());
        }
    }

    private static void twoRings(ThreeCompactors x) {
        for (int r = 0; r < 5; r++) {
            x.allocate(r, 1);
        }
        x.refer(1, 0, 2, false);
        x.refer(2, 0, 4, false);
        x.refer(4, 0, 1, false);
        x.refer(0, 0, 3, false);
        x.refer(3, 0, 0, false);
    }

    private static void clearFirstFive(ThreeCompactors x) {
        for (int r = 0; r < 5; r++) {
            x.clear(r);
        }
    }

    private static void weakToWhatIsNotAlive() {
        for (int way = 0; way <= 2; way++) {
            for (int dead = 0; dead < 3; dead++) {
                ThreeCompactors x = new ThreeCompactors();
                for (int r = 0; r < 3; r++) {
                    x.allocate(r, 3);
                }
                for (int r = 0; r < 3; r++) {
                    for (int k = 0; k < 3; k++) {
                        x.refer(r, k, k, true);
                    }
                }
                x.clear(dead);
                Check.same("until then they refer to it", dead * 5, x.word((dead + 1) % 3 * 5 + 2 + dead));
                Check.same("way " + way + " without " + dead, 5, x.compact(way));
                for (int r = 0; r < 3; r++) {
                    if (r != dead) {
                        weakOnes(x, r, dead);
                    }
                }
            }
        }
        weakRing();
    }

    private static void weakOnes(ThreeCompactors x, int r, int dead) {
        int a = x.address(r);
        Check.same("the head has its weak ones still", 3 + 1024 * 7, x.word(a));
        for (int k = 0; k < 3; k++) {
            Check.same("root " + r + " field " + k, k == dead ? NONE : x.address(k), x.word(a + 2 + k));
            Check.same("follow it", k != dead, x.follow(r, k, 7));
            Check.same("to that one", k == dead ? NONE : k + 1, x.serial(7));
        }
    }

    private static void weakRing() {
        for (int way = 0; way <= 2; way++) {
            ThreeCompactors x = Check.made(CompactionTest::twoRings);
            x.refer(2, 0, 4, true);
            x.clear(0);
            x.clear(1);
            x.clear(3);
            x.clear(4);
            Check.same("a ring with a weak one, way " + way, 12, x.compact(way));
            Check.same("its rest, way " + way, "1025 3 -1", Check.words(x));
            Check.same("root, way " + way, 0, x.address(2));
        }
    }

    /** Object 1, not alive, refers to 2, which no other has, and to 3, which a root has. */
    private static void strongOfTheDead() {
        for (int way = 0; way <= 2; way++) {
            ThreeCompactors x = new ThreeCompactors();
            for (int r = 0; r < 4; r++) {
                x.allocate(r, 2);
            }
            x.refer(0, 0, 1, false);
            x.refer(0, 1, 2, false);
            x.refer(2, 0, 0, true);
            x.refer(2, 1, 1, true);
            x.clear(0);
            x.clear(1);
            x.clear(3);
            Check.same("way " + way, 12, x.compact(way));
            Check.same("words, way " + way, "3074 3 -1 -1", Check.words(x));
            Check.same("root, way " + way, 0, x.address(2));
        }
    }

    private static void toNothing() {
        for (int way = 0; way <= 2; way++) {
            ThreeCompactors x = new ThreeCompactors();
            x.allocate(0, 3);
            x.allocate(1, 3);
            x.refer(1, 0, 7, false);
            x.refer(1, 1, 7, true);
            x.put(1, 2, -1);
            x.clear(0);
            x.compact(way);
            Check.same("words, way " + way, "2067 2 -1 -1 -1", Check.words(x));
            Check.same("strong, way " + way, false, x.follow(1, 0, 1));
            Check.same("the root has nothing, way " + way, NONE, x.serial(1));
        }
    }

    /** The middle one of three has six fields, all strong or all weak, to itself, the first or the last one. */
    private static void allKindsAndFields() {
        for (int way = 0; way <= 2; way++) {
            for (int target = 0; target < 3; target++) {
                for (int weak = 0; weak <= 1; weak++) {
                    ThreeCompactors x = new ThreeCompactors();
                    x.allocate(7, 6);
                    for (int r = 0; r < 3; r++) {
                        x.allocate(r, 6);
                    }
                    for (int k = 0; k < 6; k++) {
                        x.refer(1, k, target, weak == 1);
                    }
                    x.clear(7);
                    Check.same("way " + way, 8, x.compact(way));
                    Check.same("order, way " + way, way == 1 ? "4 2 3" : "2 3 4", Check.serials(x));
                    String t = " " + x.address(target);
                    int a = x.address(1);
                    Check.same("words to " + target + ", way " + way,
                        6 + 63 * (weak == 1 ? 1024 : 16) + " 3" + t + t + t + t + t + t, Check.words(x, a, a + 8));
                }
            }
        }
    }

    private static void numbers() {
        int[] values = {LEAST, MOST, -1, 0, 8, 255};
        for (int way = 0; way <= 2; way++) {
            ThreeCompactors x = new ThreeCompactors();
            x.allocate(0, 6);
            x.allocate(1, 6);
            for (int k = 0; k < 6; k++) {
                x.refer(1, k, 0, k % 2 == 0);
                x.put(1, k, values[k]);
            }
            x.clear(0);
            x.compact(way);
            Check.same("words, way " + way, "6 2 -2147483648 2147483647 -1 0 8 255", Check.words(x));
        }
    }

    private static void rootsGoAlong() {
        for (int way = 0; way <= 2; way++) {
            ThreeCompactors x = new ThreeCompactors();
            x.allocate(4, 1);
            x.allocate(4, 1);
            x.allocate(5, 1);
            x.copy(0, 4);
            x.copy(7, 5);
            x.copy(3, 4);
            x.compact(way);
            int two = way == 1 ? 3 : 0;
            int three = 3 - two;
            Check.same("way " + way, "2@" + two + " -1@-1 -1@-1 2@" + two + " 2@" + two + " 3@" + three
                + " -1@-1 3@" + three, Check.roots(x));
        }
    }

    /** Object 3 has a weak reference to 1, which has a strong one to 2: followed, both stay; else both go. */
    private static void followedBefore() {
        for (int way = 0; way <= 2; way++) {
            Consumer<ThreeCompactors> before = x -> {
                for (int r = 0; r < 3; r++) {
                    x.allocate(r, 1);
                }
                x.refer(2, 0, 0, true);
                x.refer(0, 0, 1, false);
                x.clear(0);
                x.clear(1);
            };
            ThreeCompactors x = Check.made(before);
            Check.same("followed", true, x.follow(2, 0, 6));
            Check.same("both stay, way " + way, 0, x.compact(way));
            Check.same("words, way " + way, "17 1 3 1 2 0 1025 3 0", Check.words(x));
            ThreeCompactors y = Check.made(before);
            Check.same("both go, way " + way, 6, y.compact(way));
            Check.same("words of the rest, way " + way, "1025 3 -1", Check.words(y));
            Check.same("followed then", false, y.follow(2, 0, 6));
        }
    }

    // ---- empty and full heaps, the smallest and the largest objects

    private static void edges() {
        Check.sentence("an empty heap", () -> {
            for (int way = 0; way <= 2; way++) {
                ThreeCompactors x = new ThreeCompactors();
                Check.same("way " + way, 0, x.compact(way));
                Check.same("as it was", Check.picture(new ThreeCompactors()), Check.picture(x));
            }
        });
        Check.sentence("a full heap without any alive: the top is 256 lower", () -> {
            for (int way = 0; way <= 2; way++) {
                ThreeCompactors x = Check.made(Heaps::full);
                x.clear(0);
                Check.same("way " + way, 256, x.compact(way));
                Check.same("top", 0, x.top());
                Check.zeroFromTheTopOn("way " + way, x);
            }
        });
        Check.sentence("a full heap with all alive: nothing changes", () -> {
            for (int way = 0; way <= 2; way++) {
                ThreeCompactors x = Check.made(Heaps::fullAndAlive);
                Check.same("way " + way, 0, x.compact(way));
                Check.same("as it was", Check.picture(Check.made(Heaps::fullAndAlive)), Check.picture(x));
            }
            for (int way : SLIDING_WAYS) {
                ThreeCompactors x = Check.made(Heaps::fullMixedAndAlive);
                Check.same("mixed, way " + way, 0, x.compact(way));
                Check.same("as it was", Check.picture(Check.made(Heaps::fullMixedAndAlive)), Check.picture(x));
            }
        });
        Check.sentence("a full heap with one not alive: at the front, in the middle, at the end",
            CompactionTest::fullButOne);
        Check.sentence("128 objects with 0 fields", CompactionTest::smallestObjects);
        Check.sentence("objects with 0 fields among others", CompactionTest::smallAmongOthers);
        Check.sentence("compacted twice, the second changes nothing", CompactionTest::twice);
        Check.sentence("compacted, filled and compacted again", CompactionTest::again);
        Check.sentence("way 1, when those of other sizes went", CompactionTest::oddOnesWent);
        Check.sentence("one object alone", () -> {
            for (int way = 0; way <= 2; way++) {
                for (int fields = 0; fields <= 6; fields++) {
                    ThreeCompactors x = new ThreeCompactors();
                    x.allocate(0, fields);
                    Check.same("alive, way " + way, 0, x.compact(way));
                    x.clear(0);
                    Check.same("not alive, way " + way, fields + 2, x.compact(way));
                }
            }
        });
    }

    /** Each object of the chain refers to the one made before it, wherever the two stand. */
    private static void fullButOne() {
        for (int fields = 1; fields <= 6; fields++) {
            int size = fields + 2;
            int count = 256 / size;
            for (int dead : new int[] {0, 1, count / 2, count - 2, count - 1}) {
                for (int way = 0; way <= 2; way++) {
                    ThreeCompactors x = new ThreeCompactors();
                    Heaps.chain(x, fields, count, dead);
                    String what = "way " + way + ", " + (dead + 1) + " of " + count;
                    Check.same(what, size, x.compact(way));
                    Check.same(what + ": top", (count - 1) * size, x.top());
                    Check.same(what + ": alive", count - 1, x.alive());
                    chainIsWhole(what, x, size, count, dead, way);
                }
            }
        }
    }

    private static void chainIsWhole(String what, ThreeCompactors x, int size, int count, int dead, int way) {
        int before = NONE;
        for (int i = 0; i < count; i++) {
            if (i == dead) {
                continue;
            }
            int place = i < dead ? i : way != 1 ? i - 1 : i == count - 1 ? dead : i;
            Check.same(what + ": serial at place " + place, i + 1, x.word(place * size + 1));
            Check.same(what + ": its reference", before, x.word(place * size + 2));
            before = place * size;
        }
    }

    private static void smallestObjects() {
        String[] due = {"121 122 123 124 125 126 127 128", "128 127 126 125 124 123 122 121",
            "121 122 123 124 125 126 127 128"};
        for (int way = 0; way <= 2; way++) {
            ThreeCompactors x = new ThreeCompactors();
            for (int i = 0; i < 128; i++) {
                x.allocate(i % 8, 0);
            }
            Check.same("way " + way, 240, x.compact(way));
            Check.same("serials, way " + way, due[way], Check.serials(x));
            Check.zeroFromTheTopOn("way " + way, x);
            x.clear(7);
            x.clear(0);
            Check.same("again, way " + way, 4, x.compact(way));
            Check.same("serials then, way " + way,
                way == 1 ? "122 127 126 125 124 123" : "122 123 124 125 126 127", Check.serials(x));
        }
    }

    private static void smallAmongOthers() {
        for (int way : SLIDING_WAYS) {
            ThreeCompactors x = new ThreeCompactors();
            int[] fields = {6, 0, 1, 0, 6, 0};
            for (int r = 0; r < 6; r++) {
                x.allocate(r, fields[r]);
            }
            x.refer(4, 5, 5, false);
            x.refer(4, 0, 1, true);
            x.refer(2, 0, 4, true);
            x.put(0, 0, 5);
            x.clear(0);
            x.clear(5);
            x.clear(3);
            Check.same("way " + way, 10, x.compact(way));
            Check.same("words, way " + way, "0 2 1025 3 5 1542 5 0 0 0 0 0 13 0 6", Check.words(x));
        }
    }

    private static void twice() {
        for (int way = 0; way <= 2; way++) {
            for (int then = 0; then <= 2; then++) {
                int by = way;
                Consumer<ThreeCompactors> once = x -> {
                    Heaps.chain(x, 3, 9, 4);
                    x.refer(0, 2, 1, true);
                    x.compact(by);
                };
                ThreeCompactors x = Check.made(once);
                Check.same("way " + then + " after " + way, 0, x.compact(then));
                Check.same("as it was", Check.picture(Check.made(once)), Check.picture(x));
            }
        }
    }

    /** Sizes differ, so that the second compaction finds objects where none began before. */
    private static void again() {
        for (int way : SLIDING_WAYS) {
            ThreeCompactors x = new ThreeCompactors();
            for (int r = 0; r < 6; r++) {
                x.allocate(r, 5 - r);
            }
            x.clear(0);
            x.clear(3);
            Check.same("first, way " + way, 11, x.compact(way));
            Check.same("its serials", "2 3 5 6", Check.serials(x));
            x.allocate(6, 6);
            x.allocate(7, 1);
            x.refer(7, 0, 5, false);
            x.refer(4, 0, 7, false);
            x.refer(2, 2, 6, true);
            x.clear(1);
            x.clear(5);
            x.clear(6);
            x.clear(7);
            Check.same("second, way " + way, 14, x.compact(way));
            Check.same("its words", "4099 3 0 0 -1 17 5 10 0 6 17 8 8", Check.words(x));
            x.clear(2);
            Check.same("third, way " + way, 5, x.compact(way));
            Check.same("its words", "17 5 5 0 6 17 8 3", Check.words(x));
        }
    }

    private static void oddOnesWent() {
        for (int odd = 0; odd < 4; odd++) {
            for (int way : SLIDING_WAYS) {
                ThreeCompactors x = new ThreeCompactors();
                for (int r = 0; r < 4; r++) {
                    x.allocate(r, r == odd ? 6 : 1);
                }
                x.clear(odd);
                Check.same("refused with it", Check.UNSUPPORTED, Check.thrownBy(x, y -> y.compact(1)));
                Check.same("it goes by way " + way, 8, x.compact(way));
                x.clear(odd == 0 ? 1 : 0);
                Check.same("taken without it", 3, x.compact(1));
                int[] kept = odd <= 1 ? new int[] {4, 3} : odd == 2 ? new int[] {4, 2} : new int[] {3, 2};
                Check.same("serials", kept[0] + " " + kept[1], Check.serials(x));
                x.allocate(5, 0);
                Check.same("refused with a new one", Check.UNSUPPORTED, Check.thrownBy(x, y -> y.compact(1)));
            }
        }
    }

    // ---- claim

    private static void claims() {
        Check.sentence("claim: the heap is compacted by that way first", CompactionTest::claimIsCompactAndAllocate);
        Check.sentence("claim: but if the object doesn't fit (if it fits, as allocate)",
            CompactionTest::claimIsAllocate);
        Check.sentence("claim: the root's object is alive until it has the new one", () -> {
            for (int way = 0; way <= 2; way++) {
                ThreeCompactors x = Check.made(Heaps::full);
                Check.same("way " + way, 33, x.claim(0, 6, way));
                Check.same("serials, way " + way, "32 33", Check.serials(x));
                Check.same("alive, way " + way, 1, x.alive());
            }
        });
        Check.sentence("claim: the new object's size is not one of the heap's", () -> {
            for (int fields = 0; fields <= 6; fields++) {
                ThreeCompactors x = Check.made(Heaps::full);
                Check.same("with " + fields, 33, x.claim(1, fields, 1));
                Check.same("top", 10 + fields, x.top());
            }
        });
    }

    private static void claimIsCompactAndAllocate() {
        for (int size = 3; size <= 8; size++) {
            int fields = size - 2;
            int count = 256 / size;
            for (int dead : new int[] {0, count / 2, count - 1}) {
                for (int way = 0; way <= 2; way++) {
                    Consumer<ThreeCompactors> before = x -> Heaps.chain(x, fields, count, dead);
                    ThreeCompactors x = Check.made(before);
                    ThreeCompactors twin = Check.made(before);
                    Check.same("compacts", size, twin.compact(way));
                    Check.same("serial", twin.allocate(3, fields), x.claim(3, fields, way));
                    Check.same("way " + way + ", " + dead + " of " + count, Check.picture(twin), Check.picture(x));
                }
            }
        }
    }

    private static void claimIsAllocate() {
        for (int way = 0; way <= 2; way++) {
            for (int fields = 0; fields <= 6; fields++) {
                ThreeCompactors x = Check.made(Heaps::rich);
                ThreeCompactors twin = Check.made(Heaps::rich);
                Check.same("serial", twin.allocate(0, fields), x.claim(0, fields, way));
                Check.same("way " + way + " with " + fields, Check.picture(twin), Check.picture(x));
            }
            ThreeCompactors empty = new ThreeCompactors();
            Check.same("in an empty heap", 1, empty.claim(7, 6, way));
            Check.same("its words", "6 1 0 0 0 0 0 0", Check.words(empty));
            ThreeCompactors last = Check.made(Heaps.withFree(2));
            int made = last.objects();
            last.claim(7, 0, way);
            Check.same("to the last word", 256, last.top());
            Check.same("and nothing goes", made + 1, last.objects());
        }
    }

    // ---- every mixture of eight

    private static void everyMixture() {
        Check.sentence("the objects that are alive keep their order by addresses", () -> {
            for (int way : SLIDING_WAYS) {
                for (int mixture = 0; mixture < 256; mixture++) {
                    compareMixture(way, mixture, new int[] {3, 0, 6, 1, 5, 2, 4, 6});
                    compareMixture(way, mixture, new int[] {0, 6, 0, 0, 6, 6, 1, 0});
                }
            }
        });
        Check.sentence("those among the first n stay, the places between get the others from the highest on", () -> {
            for (int mixture = 0; mixture < 256; mixture++) {
                for (int f = 0; f <= 6; f++) {
                    compareMixture(1, mixture, new int[] {f, f, f, f, f, f, f, f});
                }
            }
        });
    }

    /** Field k of object i: weak references to others, so that they tell where all went, and numbers. */
    private static void compareMixture(int way, int mixture, int[] fields) {
        ThreeCompactors x = new ThreeCompactors();
        for (int i = 0; i < 8; i++) {
            x.allocate(i, fields[i]);
        }
        for (int i = 0; i < 8; i++) {
            for (int k = 0; k < fields[i]; k++) {
                if (k % 3 == 2) {
                    x.put(i, k, 8 * i + k);
                } else {
                    x.refer(i, k, target(i, k), true);
                }
            }
        }
        for (int i = 0; i < 8; i++) {
            if ((mixture >> i & 1) == 0) {
                x.clear(i);
            }
        }
        x.compact(way);
        Check.same("way " + way + ", mixture " + mixture,
            dueWords(way == 1 ? byWayOne(mixture) : bySliding(mixture), fields), Check.words(x));
    }

    private static int target(int i, int k) {
        return (i + 3 * k) % 8;
    }

    private static List<Integer> bySliding(int mixture) {
        List<Integer> order = new ArrayList<>();
        for (int i = 0; i < 8; i++) {
            if ((mixture >> i & 1) != 0) {
                order.add(i);
            }
        }
        return order;
    }

    private static List<Integer> byWayOne(int mixture) {
        int n = Integer.bitCount(mixture);
        List<Integer> order = new ArrayList<>();
        int highest = 7;
        for (int place = 0; place < n; place++) {
            if ((mixture >> place & 1) != 0) {
                order.add(place);
                continue;
            }
            while ((mixture >> highest & 1) == 0) {
                highest--;
            }
            order.add(highest);
            highest--;
        }
        return order;
    }

    private static String dueWords(List<Integer> order, int[] fields) {
        int[] addresses = new int[8];
        java.util.Arrays.fill(addresses, NONE);
        int top = 0;
        for (int i : order) {
            addresses[i] = top;
            top += fields[i] + 2;
        }
        StringBuilder text = new StringBuilder();
        for (int i : order) {
            int head = fields[i];
            StringBuilder rest = new StringBuilder();
            for (int k = 0; k < fields[i]; k++) {
                head += k % 3 == 2 ? 0 : 1024 << k;
                rest.append(' ').append(k % 3 == 2 ? 8 * i + k : addresses[target(i, k)]);
            }
            text.append(text.length() == 0 ? "" : " ").append(head).append(' ').append(i + 1).append(rest);
        }
        return text.toString();
    }
}
