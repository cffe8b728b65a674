import java.util.function.Consumer;

/**
 * Each exception that a promise names: the inputs just inside and just outside, what is tested first where two
 * apply at once, and that a refused call changes nothing (claim(): nothing but that it may have compacted).
 */
public final class RefusalTest {
    private static final int LEAST = Integer.MIN_VALUE;
    private static final int MOST = Integer.MAX_VALUE;

    private static final int[] NO_ROOTS = {-1, 8, LEAST, MOST};
    private static final int[] EDGE_ROOTS = {0, 7};
    private static final int[] NO_FIELD_COUNTS = {-1, 7, -2, 8, LEAST, LEAST + 1, MOST - 1, MOST};
    private static final int[] NO_WAYS = {-1, 3, LEAST, MOST};

    public static void main(String[] args) {
        allocate();
        claim();
        compact();
        copyAndClear();
        put();
        refer();
        follow();
        kind();
        serialAndAddress();
        word();
        never();
        Check.end("RefusalTest");
    }

    // ---- promise 2

    private static void allocate() {
        Check.sentence("2 allocate: IndexOutOfBoundsException if there is no root r", () -> {
            for (int r : NO_ROOTS) {
                refusedInAllHeaps("allocate(" + r + ", 0)", Check.NO_INDEX, x -> x.allocate(r, 0));
                refusedInAllHeaps("allocate(" + r + ", 6)", Check.NO_INDEX, x -> x.allocate(r, 6));
            }
            for (int r : EDGE_ROOTS) {
                Check.accepted("allocate(" + r + ", 1)", Heaps::rich, x -> x.allocate(r, 1));
            }
        });
        Check.sentence("2 allocate: IllegalArgumentException if fields is not 0 .. 6", () -> {
            for (int fields : NO_FIELD_COUNTS) {
                refusedInAllHeaps("allocate(0, " + fields + ")", Check.BAD_ARGUMENT, x -> x.allocate(0, fields));
                refusedInAllHeaps("allocate(7, " + fields + ")", Check.BAD_ARGUMENT, x -> x.allocate(7, fields));
            }
            Check.accepted("allocate(0, 0)", Heaps::rich, x -> x.allocate(0, 0));
            Check.accepted("allocate(0, 6)", Heaps::rich, x -> x.allocate(0, 6));
        });
        Check.sentence("2 allocate: IllegalStateException if it doesn't fit any more", RefusalTest::allocateRoom);
        Check.sentence("2 allocate: the root before the fields", () -> {
            for (int r : NO_ROOTS) {
                for (int fields : NO_FIELD_COUNTS) {
                    refusedInAllHeaps("allocate(" + r + ", " + fields + ")", Check.NO_INDEX,
                        x -> x.allocate(r, fields));
                }
            }
        });
        Check.sentence("2 allocate: the root before the room", () ->
            Check.refused("allocate(8, 0)", Check.NO_INDEX, Heaps::fullAndAlive, x -> x.allocate(8, 0)));
        Check.sentence("2 allocate: the fields before the room", () -> {
            Check.refused("allocate(0, 7)", Check.BAD_ARGUMENT, Heaps::fullAndAlive, x -> x.allocate(0, 7));
            Check.refused("allocate(0, 7), 8 words free", Check.BAD_ARGUMENT, Heaps.withFree(8),
                x -> x.allocate(0, 7));
            Check.refused("allocate(0, -1)", Check.BAD_ARGUMENT, Heaps::fullAndAlive, x -> x.allocate(0, -1));
        });
    }

    private static void refusedInAllHeaps(String what, Class<?> due, Consumer<ThreeCompactors> call) {
        Check.refused(what + ", empty", due, Heaps::empty, call);
        Check.refused(what + ", rich", due, Heaps::rich, call);
        Check.refused(what + ", full", due, Heaps::full, call);
        Check.refused(what + ", full and mixed", due, Heaps::fullMixed, call);
    }

    private static void allocateRoom() {
        for (int free = 0; free <= 9; free++) {
            for (int fields = 0; fields <= 6; fields++) {
                int f = fields;
                String what = "allocate(3, " + f + ") with " + free + " words free";
                if (f + 2 > free) {
                    Check.refused(what, Check.BAD_STATE, Heaps.withFree(free), x -> x.allocate(3, f));
                } else {
                    ThreeCompactors x = Check.made(Heaps.withFree(free));
                    int made = x.objects();
                    Check.same(what, made + 1, x.allocate(3, f));
                    Check.same(what + ": address", 256 - free, x.address(3));
                    Check.same(what + ": top", 258 - free + f, x.top());
                }
            }
        }
        Check.refused("allocate doesn't compact", Check.BAD_STATE, Heaps::full, x -> x.allocate(0, 0));
    }

    // ---- promise 3

    private static void claim() {
        claimArguments();
        Check.sentence("3 claim: if it must be compacted, UnsupportedOperationException", RefusalTest::claimByWayOne);
        Check.sentence("3 claim: if the object doesn't fit (only then it compacts)", RefusalTest::claimRoom);
        Check.sentence("3 claim: IllegalStateException if it doesn't fit then", RefusalTest::claimAllAlive);
        Check.sentence("3 claim: it stays compacted", RefusalTest::claimStaysCompacted);
        Check.sentence("3 claim: it stays compacted, by hand", RefusalTest::claimStaysCompactedByHand);
        claimOrder();
    }

    private static void claimArguments() {
        Check.sentence("3 claim: IndexOutOfBoundsException if there is no root r", () -> {
            for (int r : NO_ROOTS) {
                for (int way = 0; way <= 2; way++) {
                    int by = way;
                    refusedInAllHeaps("claim(" + r + ", 0, " + by + ")", Check.NO_INDEX, x -> x.claim(r, 0, by));
                }
            }
            for (int r : EDGE_ROOTS) {
                Check.accepted("claim(" + r + ", 1, 0)", Heaps::rich, x -> x.claim(r, 1, 0));
                Check.accepted("claim(" + r + ", 1, 1), full", Heaps::full, x -> x.claim(r, 1, 1));
            }
        });
        Check.sentence("3 claim: IllegalArgumentException if fields is not 0 .. 6", () -> {
            for (int fields : NO_FIELD_COUNTS) {
                for (int way = 0; way <= 2; way++) {
                    int by = way;
                    refusedInAllHeaps("claim(0, " + fields + ", " + by + ")", Check.BAD_ARGUMENT,
                        x -> x.claim(0, fields, by));
                }
            }
            for (int fields : new int[] {0, 6}) {
                Check.accepted("claim(0, " + fields + ", 0)", Heaps::rich, x -> x.claim(0, fields, 0));
                Check.accepted("claim(0, " + fields + ", 2), full", Heaps::full, x -> x.claim(0, fields, 2));
            }
        });
        Check.sentence("3 claim: IllegalArgumentException if way is not 0 .. 2, with room or without", () -> {
            for (int way : NO_WAYS) {
                refusedInAllHeaps("claim(0, 0, " + way + ")", Check.BAD_ARGUMENT, x -> x.claim(0, 0, way));
                refusedInAllHeaps("claim(7, 6, " + way + ")", Check.BAD_ARGUMENT, x -> x.claim(7, 6, way));
            }
            for (int way = 0; way <= 2; way++) {
                int by = way;
                Check.accepted("claim(0, 0, " + by + ")", Heaps::rich, x -> x.claim(0, 0, by));
                Check.accepted("claim(0, 0, " + by + "), full", Heaps::full, x -> x.claim(0, 0, by));
            }
        });
    }

    private static void claimByWayOne() {
        for (int fields = 0; fields <= 6; fields++) {
            int f = fields;
            Check.refused("claim(3, " + f + ", 1), full and mixed", Check.UNSUPPORTED, Heaps::fullMixed,
                x -> x.claim(3, f, 1));
            Check.accepted("claim(3, " + f + ", 0), full and mixed", Heaps::fullMixed, x -> x.claim(3, f, 0));
            Check.accepted("claim(3, " + f + ", 2), full and mixed", Heaps::fullMixed, x -> x.claim(3, f, 2));
            Check.accepted("claim(3, " + f + ", 1), mixed but with room", Heaps::rich, x -> x.claim(3, f, 1));
            Check.accepted("claim(3, " + f + ", 1), full, of one size", Heaps::full, x -> x.claim(3, f, 1));
        }
    }

    /** Root 0 has the last one alone, so that a compaction would be seen by the number of objects. */
    private static void claimRoom() {
        for (int free = 0; free <= 9; free++) {
            for (int fields = 0; fields <= 6; fields++) {
                for (int way = 0; way <= 2; way++) {
                    claimWithFree(free, fields, way);
                }
            }
        }
    }

    private static void claimWithFree(int free, int fields, int way) {
        Consumer<ThreeCompactors> before = x -> {
            x.allocate(7, 0);
            Heaps.fillUpTo(x, 0, 256 - free);
        };
        String what = "claim(3, " + fields + ", " + way + ") with " + free + " words free";
        ThreeCompactors x = Check.made(before);
        int made = x.objects();
        int kept = 2 + x.top() - x.address(0);
        if (fields + 2 <= free) {
            Check.same(what, made + 1, x.claim(3, fields, way));
            Check.same(what + ": nothing goes", made + 1, x.objects());
            Check.same(what + ": address", 256 - free, x.address(3));
        } else if (way == 1) {
            Check.refused(what, Check.UNSUPPORTED, before, y -> y.claim(3, fields, 1));
        } else {
            Check.same(what, made + 1, x.claim(3, fields, way));
            Check.same(what + ": the others went", 3, x.objects());
            Check.same(what + ": address", kept, x.address(3));
            Check.same(what + ": top", kept + fields + 2, x.top());
        }
    }

    private static void claimAllAlive() {
        for (int fields = 0; fields <= 6; fields++) {
            int f = fields;
            for (int way = 0; way <= 2; way++) {
                int by = way;
                Check.refused("claim(3, " + f + ", " + by + "), full and alive", Check.BAD_STATE,
                    Heaps::fullAndAlive, x -> x.claim(3, f, by));
            }
            for (int way = 0; way <= 2; way += 2) {
                int by = way;
                Check.refused("claim(3, " + f + ", " + by + "), full, mixed and alive", Check.BAD_STATE,
                    Heaps::fullMixedAndAlive, x -> x.claim(3, f, by));
            }
        }
        Consumer<ThreeCompactors> oneLess = x -> Heaps.chain(x, 6, 31, -1);
        ThreeCompactors x = Check.made(oneLess);
        Check.same("all alive, and it just fits", 32, x.claim(3, 6, 1));
        Check.same("the top", 256, x.top());
    }

    /**
     * Of as many objects as fit, all but one are alive: after compacting there is room for that one, and for
     * what is left at the end of the heap. The dead one is at the front, in the middle and at the end.
     */
    private static void claimStaysCompacted() {
        for (int size = 3; size <= 8; size++) {
            int count = 256 / size;
            int free = 256 - (count - 1) * size;
            for (int dead : new int[] {0, count / 2, count - 1}) {
                for (int fields = 256 - count * size - 1; fields <= 6; fields++) {
                    if (fields >= 0) {
                        claimOneDead(size, dead, fields, free);
                    }
                }
            }
        }
    }

    private static void claimOneDead(int size, int dead, int fields, int free) {
        int count = 256 / size;
        Consumer<ThreeCompactors> before = x -> Heaps.chain(x, size - 2, count, dead);
        for (int way = 0; way <= 2; way++) {
            int by = way;
            String what = "claim(3, " + fields + ", " + by + "), " + dead + " of " + count + " is dead";
            if (fields + 2 > free) {
                Check.refusedBut(what, Check.BAD_STATE, before, x -> x.claim(3, fields, by), x -> x.compact(by));
            } else {
                ThreeCompactors x = Check.made(before);
                Check.same(what, count + 1, x.claim(3, fields, by));
                Check.same(what + ": objects", count, x.objects());
                Check.same(what + ": address", 256 - free, x.address(3));
            }
        }
    }

    private static void claimStaysCompactedByHand() {
        for (int way = 0; way <= 2; way++) {
            int by = way;
            ThreeCompactors x = Check.made(y -> Heaps.chain(y, 2, 64, 0));
            x.copy(3, 0);
            x.refer(3, 1, 3, true);
            Check.same("full", 256, x.top());
            Check.same("one word too many", Check.BAD_STATE, Check.thrownBy(x, y -> y.claim(3, 3, by)));
            Check.same("top", 252, x.top());
            Check.same("objects", 63, x.objects());
            Check.same("alive", 63, x.alive());
            Check.same("words that were left", "0 0 0 0", Check.words(x, 252, 256));
            int last = way == 1 ? 0 : 248;
            Check.same("root 3 has what it had", "64@" + last, x.serial(3) + "@" + x.address(3));
            Check.same("its field refers to it", last, x.word(last + 3));
            Check.same("what just fits", 65, x.claim(4, 2, by));
            Check.same("top then", 256, x.top());
        }
    }

    private static void claimOrder() {
        Check.sentence("3 claim: the root before the fields, the way, the sizes and the room", () -> {
            for (int r : NO_ROOTS) {
                refusedInAllHeaps("no root, no such fields", Check.NO_INDEX, x -> x.claim(r, 7, 0));
                refusedInAllHeaps("no root, no such way", Check.NO_INDEX, x -> x.claim(r, 0, 3));
                refusedInAllHeaps("no root, neither", Check.NO_INDEX, x -> x.claim(r, -1, -1));
                Check.refused("no root, sizes differ", Check.NO_INDEX, Heaps::fullMixedAndAlive,
                    x -> x.claim(r, 0, 1));
                Check.refused("no root, no room", Check.NO_INDEX, Heaps::fullAndAlive, x -> x.claim(r, 0, 0));
            }
        });
        Check.sentence("3 claim: the fields and the way before the sizes and the room", () -> {
            for (int fields : NO_FIELD_COUNTS) {
                Check.refused("no such fields, sizes differ", Check.BAD_ARGUMENT, Heaps::fullMixedAndAlive,
                    x -> x.claim(0, fields, 1));
                Check.refused("no such fields, no room", Check.BAD_ARGUMENT, Heaps::fullAndAlive,
                    x -> x.claim(0, fields, 0));
                Check.refused("no such fields, no such way", Check.BAD_ARGUMENT, Heaps::fullAndAlive,
                    x -> x.claim(0, fields, 3));
            }
            for (int way : NO_WAYS) {
                Check.refused("no such way, sizes differ", Check.BAD_ARGUMENT, Heaps::fullMixedAndAlive,
                    x -> x.claim(0, 0, way));
                Check.refused("no such way, no room", Check.BAD_ARGUMENT, Heaps::fullAndAlive,
                    x -> x.claim(0, 0, way));
            }
        });
        Check.sentence("3 claim: the sizes before the room", () ->
            Check.refused("sizes differ, no room", Check.UNSUPPORTED, Heaps::fullMixedAndAlive,
                x -> x.claim(0, 0, 1)));
    }

    // ---- promise 4

    private static void compact() {
        Check.sentence("4 compact: IllegalArgumentException if way is not 0 .. 2", () -> {
            for (int way : NO_WAYS) {
                refusedInAllHeaps("compact(" + way + ")", Check.BAD_ARGUMENT, x -> x.compact(way));
            }
            for (int way = 0; way <= 2; way++) {
                int by = way;
                Check.accepted("compact(" + by + "), empty", Heaps::empty, x -> x.compact(by));
                Check.accepted("compact(" + by + "), full", Heaps::full, x -> x.compact(by));
            }
        });
        Check.sentence("4 compact: UnsupportedOperationException if it is 1 and the sizes differ", () -> {
            for (int odd = 0; odd < 4; odd++) {
                for (int fields = 0; fields <= 6; fields++) {
                    for (int other = 0; other <= 6; other++) {
                        compactWithOdd(odd, fields, other);
                    }
                }
            }
            Check.refused("full and mixed", Check.UNSUPPORTED, Heaps::fullMixed, x -> x.compact(1));
            Check.refused("full, mixed and alive", Check.UNSUPPORTED, Heaps::fullMixedAndAlive, x -> x.compact(1));
            Check.refused("rich", Check.UNSUPPORTED, Heaps::rich, x -> x.compact(1));
        });
        Check.sentence("4 compact: if it is 1 (ways 0 and 2 take all sizes)", () -> {
            Check.same("way 0", 3, Check.made(Heaps::rich).compact(0));
            Check.same("way 2", 3, Check.made(Heaps::rich).compact(2));
        });
        Check.sentence("4 compact: the way before the sizes", () -> {
            for (int way : NO_WAYS) {
                Check.refused("compact(" + way + ")", Check.BAD_ARGUMENT, Heaps::fullMixed, x -> x.compact(way));
            }
        });
    }

    /** Four objects, one of which has another number of fields, alive or not in every mixture. */
    private static void compactWithOdd(int odd, int fields, int other) {
        for (int dead = 0; dead < 16; dead++) {
            int without = dead;
            Consumer<ThreeCompactors> before = x -> {
                for (int r = 0; r < 4; r++) {
                    x.allocate(r, r == odd ? other : fields);
                }
                for (int r = 0; r < 4; r++) {
                    if ((without >> r & 1) != 0) {
                        x.clear(r);
                    }
                }
            };
            String what = fields + " fields, but object " + odd + " has " + other + ", without " + dead;
            if (fields == other) {
                Check.accepted(what, before, x -> x.compact(1));
            } else {
                Check.refused(what, Check.UNSUPPORTED, before, x -> x.compact(1));
            }
        }
    }

    // ---- promises 5 and 6

    private static void copyAndClear() {
        Check.sentence("5 copy: IndexOutOfBoundsException if there is no root r", () -> {
            for (int r : NO_ROOTS) {
                refusedInAllHeaps("copy(" + r + ", 0)", Check.NO_INDEX, x -> x.copy(r, 0));
                refusedInAllHeaps("copy(" + r + ", 7)", Check.NO_INDEX, x -> x.copy(r, 7));
            }
        });
        Check.sentence("5 copy: or q", () -> {
            for (int q : NO_ROOTS) {
                refusedInAllHeaps("copy(0, " + q + ")", Check.NO_INDEX, x -> x.copy(0, q));
                refusedInAllHeaps("copy(7, " + q + ")", Check.NO_INDEX, x -> x.copy(7, q));
                for (int r : NO_ROOTS) {
                    refusedInAllHeaps("copy(" + r + ", " + q + ")", Check.NO_INDEX, x -> x.copy(r, q));
                }
            }
            for (int r : EDGE_ROOTS) {
                for (int q : EDGE_ROOTS) {
                    Check.accepted("copy(" + r + ", " + q + ")", Heaps::empty, x -> x.copy(r, q));
                    Check.accepted("copy(" + r + ", " + q + ")", Heaps::rich, x -> x.copy(r, q));
                }
            }
        });
        Check.sentence("6 clear: IndexOutOfBoundsException if there is no root r", () -> {
            for (int r : NO_ROOTS) {
                refusedInAllHeaps("clear(" + r + ")", Check.NO_INDEX, x -> x.clear(r));
            }
            for (int r : EDGE_ROOTS) {
                Check.accepted("clear(" + r + ")", Heaps::empty, x -> x.clear(r));
                Check.accepted("clear(" + r + ")", Heaps::rich, x -> x.clear(r));
            }
        });
    }

    // ---- promises 7 to 10

    /** A call with a root and a field of its object. */
    private interface FieldCall {
        void on(ThreeCompactors x, int r, int k);
    }

    /** What put(), refer(), follow() and kind() say alike; the fields that are there have references. */
    private static void refusesRootsAndFields(String name, FieldCall call) {
        Check.sentence(name + ": IndexOutOfBoundsException if there is no root r", () -> {
            for (int r : NO_ROOTS) {
                for (int k : new int[] {0, 5, -1, 6}) {
                    refusedInAllHeaps(name + " root " + r + " field " + k, Check.NO_INDEX, x -> call.on(x, r, k));
                }
            }
        });
        Check.sentence(name + ": NoSuchElementException if r has nothing", () -> {
            for (int r = 0; r < 8; r++) {
                int root = r;
                Check.refused(name + " root " + r + ", empty", Check.NO_ELEMENT, Heaps::empty,
                    x -> call.on(x, root, 0));
                Consumer<ThreeCompactors> cleared = x -> {
                    allReferToThemselves(x);
                    x.clear(root);
                };
                Check.refused(name + " root " + r + ", cleared", Check.NO_ELEMENT, cleared,
                    x -> call.on(x, root, 0));
                Check.accepted(name + " root " + r + ", not cleared", RefusalTest::allReferToThemselves,
                    x -> call.on(x, root, 0));
            }
        });
        Check.sentence(name + ": IndexOutOfBoundsException if there is no field k", () -> {
            for (int fields = 0; fields <= 6; fields++) {
                fieldEdges(name, call, fields);
            }
        });
        Check.sentence(name + ": that it has nothing before that there is no field", () -> {
            for (int k : new int[] {-1, 6, 7, LEAST, MOST}) {
                Check.refused(name + " field " + k, Check.NO_ELEMENT, Heaps::empty, x -> call.on(x, 0, k));
                Check.refused(name + " field " + k, Check.NO_ELEMENT, Heaps::rich, x -> call.on(x, 3, k));
            }
        });
    }

    private static void allReferToThemselves(ThreeCompactors x) {
        for (int r = 0; r < 8; r++) {
            x.allocate(r, 1);
            x.refer(r, 0, r, false);
        }
    }

    private static void fieldEdges(String name, FieldCall call, int fields) {
        // a large object behind it, so that a field too far would be another object's word
        Consumer<ThreeCompactors> before = x -> {
            x.allocate(0, fields);
            x.allocate(7, 6);
            for (int k = 0; k < fields; k++) {
                x.refer(0, k, 7, k % 2 == 0);
            }
        };
        for (int k = 0; k < fields; k++) {
            int field = k;
            Check.accepted(name + " field " + k + " of " + fields, before, x -> call.on(x, 0, field));
        }
        for (int k : new int[] {-1, fields, -2, fields + 1, 6, LEAST, MOST, 32, -32}) {
            Check.refused(name + " field " + k + " of " + fields, Check.NO_INDEX, before, x -> call.on(x, 0, k));
        }
    }

    /** What refer() and follow() say alike of root q. */
    private static void refusesOtherRoots(String name, OtherRootCall call) {
        Check.sentence(name + ": IndexOutOfBoundsException if there is no root q", () -> {
            for (int q : NO_ROOTS) {
                Check.refused(name + " q " + q, Check.NO_INDEX, Heaps::rich, x -> call.on(x, 0, 1, q));
                for (int r : NO_ROOTS) {
                    Check.refused(name + " r " + r + " q " + q, Check.NO_INDEX, Heaps::rich,
                        x -> call.on(x, r, 1, q));
                }
            }
            for (int q : EDGE_ROOTS) {
                Check.accepted(name + " q " + q, Heaps::rich, x -> call.on(x, 0, 1, q));
            }
        });
        Check.sentence(name + ": that there is no root q before that r has nothing", () -> {
            for (int q : NO_ROOTS) {
                Check.refused(name + " q " + q, Check.NO_INDEX, Heaps::empty, x -> call.on(x, 0, 0, q));
                Check.refused(name + " q " + q, Check.NO_INDEX, Heaps::rich, x -> call.on(x, 3, 0, q));
                Check.refused(name + " q " + q + " and no field", Check.NO_INDEX, Heaps::rich,
                    x -> call.on(x, 3, 6, q));
            }
        });
    }

    private interface OtherRootCall {
        void on(ThreeCompactors x, int r, int k, int q);
    }

    private static void put() {
        refusesRootsAndFields("7 put", (x, r, k) -> x.put(r, k, 5));
        Check.sentence("7 put: no number is refused", () -> {
            for (int v : new int[] {LEAST, -1, 0, 1, MOST}) {
                Check.accepted("put " + v, Heaps::rich, x -> x.put(0, 5, v));
            }
        });
    }

    private static void refer() {
        refusesRootsAndFields("8 refer, strong", (x, r, k) -> x.refer(r, k, 7, false));
        refusesRootsAndFields("8 refer, weak", (x, r, k) -> x.refer(r, k, 0, true));
        refusesOtherRoots("8 refer, strong", (x, r, k, q) -> x.refer(r, k, q, false));
        refusesOtherRoots("8 refer, weak", (x, r, k, q) -> x.refer(r, k, q, true));
        Check.sentence("8 refer: what q has may be nothing", () -> {
            Check.accepted("strong", Heaps::rich, x -> x.refer(0, 0, 3, false));
            Check.accepted("weak", Heaps::rich, x -> x.refer(0, 0, 3, true));
        });
    }

    private static void follow() {
        refusesRootsAndFields("9 follow", (x, r, k) -> x.follow(r, k, 7));
        refusesOtherRoots("9 follow", (x, r, k, q) -> x.follow(r, k, q));
        Check.sentence("9 follow: IllegalStateException if it has a number", () -> {
            for (int v : new int[] {LEAST, -1, 0, 1, 8, MOST}) {
                for (int k = 0; k < 6; k++) {
                    int field = k;
                    Consumer<ThreeCompactors> before = x -> {
                        Heaps.rich(x);
                        x.put(0, field, v);
                    };
                    Check.refused("follow number " + v, Check.BAD_STATE, before, x -> x.follow(0, field, 7));
                }
            }
            Check.refused("a new object's field", Check.BAD_STATE, x -> x.allocate(7, 1), x -> x.follow(7, 0, 0));
            for (int k = 1; k <= 4; k++) {
                int field = k;
                Check.accepted("follow a reference " + k, Heaps::rich, x -> x.follow(0, field, 7));
            }
        });
        Check.sentence("9 follow: that there is no root q before that it has a number", () -> {
            for (int q : NO_ROOTS) {
                Check.refused("follow(0, 0, " + q + ")", Check.NO_INDEX, Heaps::rich, x -> x.follow(0, 0, q));
            }
        });
        Check.sentence("9 follow: that there is no field k before that it has a number", () -> {
            Consumer<ThreeCompactors> numbers = x -> {
                x.allocate(0, 2);
                x.allocate(1, 6);
            };
            Check.refused("follow(0, 2, 1)", Check.NO_INDEX, numbers, x -> x.follow(0, 2, 1));
            Check.refused("follow(0, -1, 1)", Check.NO_INDEX, numbers, x -> x.follow(0, -1, 1));
        });
    }

    private static void kind() {
        refusesRootsAndFields("10 kind", (x, r, k) -> x.kind(r, k));
    }

    // ---- promises 11 to 16

    private static void serialAndAddress() {
        Check.sentence("11 serial: IndexOutOfBoundsException if there is no root r", () -> {
            for (int r : NO_ROOTS) {
                refusedInAllHeaps("serial(" + r + ")", Check.NO_INDEX, x -> x.serial(r));
            }
            for (int r : EDGE_ROOTS) {
                Check.accepted("serial(" + r + ")", Heaps::empty, x -> x.serial(r));
                Check.accepted("serial(" + r + ")", Heaps::rich, x -> x.serial(r));
            }
        });
        Check.sentence("12 address: IndexOutOfBoundsException if there is no root r", () -> {
            for (int r : NO_ROOTS) {
                refusedInAllHeaps("address(" + r + ")", Check.NO_INDEX, x -> x.address(r));
            }
            for (int r : EDGE_ROOTS) {
                Check.accepted("address(" + r + ")", Heaps::empty, x -> x.address(r));
                Check.accepted("address(" + r + ")", Heaps::rich, x -> x.address(r));
            }
        });
    }

    private static void word() {
        Check.sentence("13 word: IndexOutOfBoundsException if there is none", () -> {
            for (int a : new int[] {-1, 256, -2, 257, LEAST, MOST}) {
                refusedInAllHeaps("word(" + a + ")", Check.NO_INDEX, x -> x.word(a));
            }
            for (int a : new int[] {0, 255}) {
                Check.accepted("word(" + a + ")", Heaps::empty, x -> x.word(a));
                Check.accepted("word(" + a + ")", Heaps::rich, x -> x.word(a));
                Check.accepted("word(" + a + ")", Heaps::full, x -> x.word(a));
            }
        });
    }

    private static void never() {
        Check.sentence("14, 15, 16: top, objects and alive throw nothing and change nothing", () -> {
            Consumer<ThreeCompactors> asking = x -> {
                x.top();
                x.objects();
                x.alive();
            };
            for (Consumer<ThreeCompactors> before : java.util.List.<Consumer<ThreeCompactors>>of(Heaps::empty,
                    Heaps::rich, Heaps::full, Heaps::fullMixed, Heaps::fullAndAlive, Heaps::fullMixedAndAlive)) {
                ThreeCompactors x = Check.made(before);
                Check.same("throws", Check.NOTHING, Check.thrownBy(x, asking));
                Check.same("leaves", Check.picture(Check.made(before)), Check.picture(x));
            }
        });
    }
}
