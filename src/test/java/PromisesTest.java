/** What each promise says that its call does and answers; what calls refuse is in RefusalTest. */
public final class PromisesTest {
    private static final int NONE = ThreeCompactors.NONE;
    private static final int LEAST = Integer.MIN_VALUE;
    private static final int MOST = Integer.MAX_VALUE;

    public static void main(String[] args) {
        newObject();
        allocate();
        claim();
        compact();
        copy();
        clear();
        put();
        refer();
        follow();
        kind();
        serialAndAddress();
        word();
        counts();
        Check.end("PromisesTest");
    }

    private static void newObject() {
        Check.sentence("1: an empty heap", () -> {
            ThreeCompactors x = new ThreeCompactors();
            Check.same("top", 0, x.top());
            Check.same("objects", 0, x.objects());
            Check.same("alive", 0, x.alive());
            for (int a = 0; a < 256; a++) {
                Check.same("word " + a, 0, x.word(a));
            }
        });
        Check.sentence("1: roots with nothing", () -> {
            ThreeCompactors x = new ThreeCompactors();
            for (int r = 0; r < 8; r++) {
                Check.same("serial " + r, NONE, x.serial(r));
                Check.same("address " + r, NONE, x.address(r));
            }
        });
    }

    private static void allocate() {
        Check.sentence("2: makes an object at the top", () -> {
            ThreeCompactors x = new ThreeCompactors();
            int place = 0;
            for (int fields = 0; fields <= 6; fields++) {
                x.allocate(7 - fields, fields);
                Check.same("address", place, x.address(7 - fields));
                Check.same("head", fields, x.word(place));
                place += fields + 2;
                Check.same("top", place, x.top());
                Check.same("objects", fields + 1, x.objects());
            }
        });
        Check.sentence("2: whose fields all have the number 0", PromisesTest::fieldsAreNew);
        Check.sentence("2: root r has it then", () -> {
            ThreeCompactors x = Check.made(Heaps::three);
            x.allocate(1, 0);
            Check.same("what it had is let go", "1@0 4@9 3@7 -1@-1 -1@-1 -1@-1 -1@-1 -1@-1", Check.roots(x));
            Check.same("but is still there", "1 2 3 4", Check.serials(x));
            Check.same("not alive", 3, x.alive());
        });
        Check.sentence("2: answers its serial", () -> {
            ThreeCompactors x = new ThreeCompactors();
            for (int i = 1; i <= 128; i++) {
                Check.same("answer", i, x.allocate(i % 8, 0));
                Check.same("serial", i, x.serial(i % 8));
            }
        });
    }

    private static void fieldsAreNew() {
        for (int fields = 0; fields <= 6; fields++) {
            ThreeCompactors x = new ThreeCompactors();
            x.allocate(0, 6);
            for (int k = 0; k < 6; k++) {
                x.put(0, k, -1 - k);
            }
            x.refer(0, 5, 0, false);
            x.clear(0);
            x.compact(0);
            x.allocate(0, fields);
            for (int k = 0; k < fields; k++) {
                Check.same("field " + k, 0, x.word(2 + k));
                Check.same("kind " + k, 0, x.kind(0, k));
            }
            Check.same("head", fields, x.word(0));
        }
    }

    private static void claim() {
        Check.sentence("3: as allocate()", () -> {
            for (int way = 0; way <= 2; way++) {
                ThreeCompactors x = Check.made(Heaps::three);
                x.clear(1);
                Check.same("serial", 4, x.claim(0, 1, way));
                Check.same("words", "2 1 0 0 1 2 0 0 3 1 4 0", Check.words(x));
                Check.same("root", 9, x.address(0));
            }
        });
        Check.sentence("3: but if the object doesn't fit, the heap is compacted by that way first", () -> {
            String[] due = {"29 30 31 32 33", "32 31 30 29 33", "29 30 31 32 33"};
            for (int way = 0; way <= 2; way++) {
                ThreeCompactors x = new ThreeCompactors();
                for (int i = 0; i < 32; i++) {
                    x.allocate(i % 4, 6);
                }
                Check.same("serial", 33, x.claim(6, 4, way));
                Check.same("order by way " + way, due[way], Check.serials(x));
                Check.same("address", 32, x.address(6));
                Check.same("top", 38, x.top());
                Check.same("words", "4 33 0 0 0 0", Check.words(x, 32, 38));
            }
        });
    }

    private static void compact() {
        Check.sentence("4: compacts", () -> {
            for (int way = 0; way <= 2; way += 2) {
                ThreeCompactors x = Check.made(Heaps::rich);
                x.compact(way);
                Check.same("words", "20646 1 -2147483648 0 -1 8 -1 -1 17 3 -1 0 4 1030 5 0 0 0 0 0 2147483647",
                    Check.words(x));
                Check.same("roots", "1@0 3@8 4@11 -1@-1 -1@-1 -1@-1 -1@-1 5@13", Check.roots(x));
            }
        });
        Check.sentence("4: answers by how much the top is lower then", () -> {
            ThreeCompactors x = Check.made(Heaps::three);
            Check.same("all alive", 0, x.compact(0));
            x.clear(1);
            Check.same("one of 3 words", 3, x.compact(2));
            x.clear(2);
            Check.same("one of 2 words", 2, x.compact(0));
            x.clear(0);
            Check.same("the last one", 4, x.compact(1));
            Check.same("none there", 0, x.compact(1));
        });
    }

    private static void copy() {
        Check.sentence("5: root r has what root q has", () -> {
            ThreeCompactors x = Check.made(Heaps::three);
            x.copy(7, 0);
            Check.same("an object", "1@0 2@4 3@7 -1@-1 -1@-1 -1@-1 -1@-1 1@0", Check.roots(x));
            x.copy(0, 2);
            Check.same("another, over what it had", "3@7 2@4 3@7 -1@-1 -1@-1 -1@-1 -1@-1 1@0", Check.roots(x));
            x.copy(0, 7);
            Check.same("the first again", "1@0 2@4 3@7 -1@-1 -1@-1 -1@-1 -1@-1 1@0", Check.roots(x));
            x.put(7, 0, 9);
            Check.same("it is one object for both", 9, x.word(2));
        });
        Check.sentence("5: what it has may be nothing", () -> {
            ThreeCompactors x = Check.made(Heaps::three);
            x.copy(1, 6);
            Check.same("nothing", "1@0 -1@-1 3@7 -1@-1 -1@-1 -1@-1 -1@-1 -1@-1", Check.roots(x));
            Check.same("its object is let go", 2, x.alive());
            x.copy(5, 6);
            Check.same("nothing to nothing", NONE, x.serial(5));
        });
        Check.sentence("5: r and q may be one root", () -> {
            for (int r = 0; r < 8; r++) {
                ThreeCompactors x = Check.made(Heaps::rich);
                x.copy(r, r);
                Check.same("as it was", Check.picture(Check.made(Heaps::rich)), Check.picture(x));
            }
        });
    }

    private static void clear() {
        Check.sentence("6: root r has nothing", () -> {
            for (int r = 0; r < 8; r++) {
                ThreeCompactors x = new ThreeCompactors();
                for (int q = 0; q < 8; q++) {
                    x.allocate(q, 0);
                }
                x.clear(r);
                for (int q = 0; q < 8; q++) {
                    Check.same("root " + q + " after " + r, q == r ? NONE : q + 1, x.serial(q));
                }
                Check.same("the heap is as it was", "0 1 0 2 0 3 0 4 0 5 0 6 0 7 0 8", Check.words(x));
            }
        });
        Check.sentence("6: a root that has nothing already", () -> {
            ThreeCompactors x = Check.made(Heaps::rich);
            x.clear(3);
            Check.same("as it was", Check.picture(Check.made(Heaps::rich)), Check.picture(x));
        });
        Check.sentence("6: another root that has the same object keeps it", () -> {
            ThreeCompactors x = Check.made(Heaps::three);
            x.copy(4, 1);
            x.clear(1);
            Check.same("the other root", 2, x.serial(4));
            Check.same("alive", 3, x.alive());
        });
    }

    private static void put() {
        Check.sentence("7: field k of root r's object becomes a number", () -> {
            for (int v : new int[] {LEAST, LEAST + 1, -2, -1, 0, 1, 255, 256, MOST - 1, MOST}) {
                for (int k = 0; k < 6; k++) {
                    ThreeCompactors x = new ThreeCompactors();
                    x.allocate(1, 1);
                    x.allocate(0, 6);
                    x.put(0, k, v);
                    for (int other = 0; other < 6; other++) {
                        Check.same("field " + other, other == k ? v : 0, x.word(5 + other));
                    }
                    Check.same("the head and the object before", "1 1 0 6 2", Check.words(x, 0, 5));
                }
            }
        });
        Check.sentence("7: becomes one (it had a reference)", () -> {
            ThreeCompactors x = Check.made(Heaps::three);
            x.refer(0, 0, 1, false);
            x.refer(0, 1, 1, true);
            x.clear(1);
            Check.same("alive by it", 3, x.alive());
            x.put(0, 0, 4);
            x.put(0, 1, 4);
            Check.same("words", "2 1 4 4 1 2 0 0 3", Check.words(x));
            Check.same("the object is let go", 2, x.alive());
            x.compact(0);
            Check.same("the numbers stay", "2 1 4 4 0 3", Check.words(x));
        });
    }

    private static void refer() {
        Check.sentence("8: field k becomes a reference to what root q has", () -> {
            for (int weak = 0; weak <= 1; weak++) {
                for (int k = 0; k < 6; k++) {
                    ThreeCompactors x = new ThreeCompactors();
                    x.allocate(7, 0);
                    x.allocate(0, 6);
                    x.allocate(3, 0);
                    x.refer(0, k, 3, weak == 1);
                    Check.same("head", 6 + ((weak == 1 ? 1024 : 16) << k), x.word(2));
                    for (int other = 0; other < 6; other++) {
                        Check.same("field " + other, other == k ? 10 : 0, x.word(4 + other));
                    }
                    x.refer(0, k, 0, weak == 1);
                    Check.same("to itself", 2, x.word(4 + k));
                    x.refer(0, k, 7, weak == 1);
                    Check.same("to the first", 0, x.word(4 + k));
                    x.refer(0, k, 5, weak == 1);
                    Check.same("to nothing", NONE, x.word(4 + k));
                    Check.same("head still", 6 + ((weak == 1 ? 1024 : 16) << k), x.word(2));
                }
            }
        });
        Check.sentence("8: weak or strong, over what it had", () -> {
            ThreeCompactors x = Check.made(Heaps::three);
            x.refer(0, 0, 1, true);
            Check.same("weak", 1026, x.word(0));
            x.refer(0, 0, 1, false);
            Check.same("strong over weak", 18, x.word(0));
            x.refer(0, 0, 1, true);
            Check.same("weak over strong", 1026, x.word(0));
        });
        Check.sentence("8: to what root q has, whatever q has later", () -> {
            ThreeCompactors x = Check.made(Heaps::three);
            x.refer(0, 0, 1, false);
            x.clear(1);
            Check.same("after clear", 4, x.word(2));
            x.refer(0, 1, 1, false);
            x.copy(1, 2);
            Check.same("after copy", NONE, x.word(3));
        });
    }

    private static void follow() {
        Check.sentence("9: root q has what field k refers to", () -> {
            for (int weak = 0; weak <= 1; weak++) {
                ThreeCompactors x = Check.made(Heaps::three);
                x.refer(0, 1, 2, weak == 1);
                String before = Check.words(x);
                Check.same("an object", true, x.follow(0, 1, 7));
                Check.same("roots", "1@0 2@4 3@7 -1@-1 -1@-1 -1@-1 -1@-1 3@7", Check.roots(x));
                Check.same("over what q had", true, x.follow(0, 1, 1));
                Check.same("roots then", "1@0 3@7 3@7 -1@-1 -1@-1 -1@-1 -1@-1 3@7", Check.roots(x));
                Check.same("the heap is as it was", before, Check.words(x));
                Check.same("q may be r", true, x.follow(0, 1, 0));
                Check.same("roots at last", "3@7 3@7 3@7 -1@-1 -1@-1 -1@-1 -1@-1 3@7", Check.roots(x));
            }
        });
        Check.sentence("9: whether it is an object", () -> {
            for (int weak = 0; weak <= 1; weak++) {
                ThreeCompactors x = Check.made(Heaps::three);
                x.refer(0, 0, 7, weak == 1);
                Check.same("nothing", false, x.follow(0, 0, 2));
                Check.same("q has nothing then", NONE, x.serial(2));
                x.refer(0, 1, 0, weak == 1);
                Check.same("the object itself", true, x.follow(0, 1, 2));
                Check.same("q has it", 1, x.serial(2));
                Check.same("nothing, and q is r", false, x.follow(0, 0, 0));
                Check.same("r has nothing then", NONE, x.serial(0));
            }
        });
        Check.sentence("9: a weak reference to what is not alive", () -> {
            ThreeCompactors x = Check.made(Heaps::rich);
            Check.same("alive before", 4, x.alive());
            Check.same("it is an object", true, x.follow(0, 2, 4));
            Check.same("q has it", 2, x.serial(4));
            Check.same("alive then", 5, x.alive());
            Check.same("so it stays", 0, x.compact(0));
        });
    }

    private static void kind() {
        Check.sentence("10: 0 a number, 1 a strong reference, 2 a weak one", () -> {
            for (int k = 0; k < 6; k++) {
                ThreeCompactors x = new ThreeCompactors();
                x.allocate(7, 6);
                Check.same("new", "0 0 0 0 0 0", kinds(x));
                x.refer(7, k, 7, false);
                Check.same("strong", "0 0 0 0 0 0".substring(0, 2 * k) + "1" + "0 0 0 0 0 0".substring(2 * k + 1),
                    kinds(x));
                x.refer(7, k, 7, true);
                Check.same("weak", "0 0 0 0 0 0".substring(0, 2 * k) + "2" + "0 0 0 0 0 0".substring(2 * k + 1),
                    kinds(x));
                x.refer(7, k, 0, false);
                Check.same("strong to nothing", 1, x.kind(7, k));
                x.refer(7, k, 0, true);
                Check.same("weak to nothing", 2, x.kind(7, k));
                x.put(7, k, -1);
                Check.same("the number -1", 0, x.kind(7, k));
            }
        });
        Check.sentence("10: kinds go along", () -> {
            for (int way = 0; way <= 2; way++) {
                ThreeCompactors x = new ThreeCompactors();
                x.allocate(0, 6);
                x.allocate(7, 6);
                x.refer(7, 0, 0, true);
                x.refer(7, 2, 7, true);
                x.refer(7, 4, 1, false);
                x.refer(7, 5, 7, false);
                x.clear(0);
                x.compact(way);
                Check.same("way " + way, "2 0 2 0 1 1", kinds(x));
            }
        });
    }

    private static String kinds(ThreeCompactors x) {
        StringBuilder text = new StringBuilder();
        for (int k = 0; k < 6; k++) {
            text.append(k == 0 ? "" : " ").append(x.kind(7, k));
        }
        return text.toString();
    }

    private static void serialAndAddress() {
        Check.sentence("11: the serial of root r's object; NONE if it has nothing", () -> {
            ThreeCompactors x = Check.made(Heaps::rich);
            int[] due = {1, 3, 4, NONE, NONE, NONE, NONE, 5};
            for (int r = 0; r < 8; r++) {
                Check.same("root " + r, due[r], x.serial(r));
            }
            x.compact(0);
            for (int r = 0; r < 8; r++) {
                Check.same("compacted, root " + r, due[r], x.serial(r));
            }
        });
        Check.sentence("12: the address of root r's object; NONE if it has nothing", () -> {
            ThreeCompactors x = Check.made(Heaps::rich);
            int[] due = {0, 11, 14, NONE, NONE, NONE, NONE, 16};
            for (int r = 0; r < 8; r++) {
                Check.same("root " + r, due[r], x.address(r));
            }
            x.compact(2);
            int[] then = {0, 8, 11, NONE, NONE, NONE, NONE, 13};
            for (int r = 0; r < 8; r++) {
                Check.same("compacted, root " + r, then[r], x.address(r));
            }
        });
    }

    private static void word() {
        Check.sentence("13: the word at an address of the heap", () -> {
            ThreeCompactors x = Check.made(Heaps::three);
            x.put(1, 0, LEAST);
            x.put(0, 1, MOST);
            int[] due = {2, 1, 0, MOST, 1, 2, LEAST, 0, 3, 0};
            for (int a = 0; a < due.length; a++) {
                Check.same("word " + a, due[a], x.word(a));
            }
            Check.same("from the top on", 0, x.word(255));
            ThreeCompactors full = Check.made(Heaps::full);
            full.put(0, 5, 1234);
            Check.same("the last one of a full heap", 1234, full.word(255));
            full.put(0, 4, -5);
            Check.same("the last but one", -5, full.word(254));
        });
    }

    private static void counts() {
        Check.sentence("14: the top", () -> {
            ThreeCompactors x = Check.made(Heaps::three);
            Check.same("three", 9, x.top());
            x.clear(0);
            Check.same("those not alive count", 9, x.top());
            x.compact(0);
            Check.same("compacted", 5, x.top());
            Check.same("empty", 0, new ThreeCompactors().top());
            Check.same("full", 256, Check.made(Heaps::full).top());
        });
        Check.sentence("15: how many objects are in the heap, alive or not", () -> {
            ThreeCompactors x = Check.made(Heaps::three);
            Check.same("three", 3, x.objects());
            x.clear(0);
            x.clear(1);
            x.clear(2);
            Check.same("not alive", 3, x.objects());
            x.compact(2);
            Check.same("compacted", 0, x.objects());
            Check.same("full", 32, Check.made(Heaps::full).objects());
            Check.same("rich", 5, Check.made(Heaps::rich).objects());
        });
        Check.sentence("16: how many of them are alive", () -> {
            ThreeCompactors x = Check.made(Heaps::rich);
            Check.same("rich", 4, x.alive());
            Check.same("asked again", 4, x.alive());
            x.clear(1);
            Check.same("one has a reference still", 4, x.alive());
            x.clear(0);
            Check.same("a weak one is none", 2, x.alive());
            x.clear(2);
            x.clear(7);
            Check.same("none", 0, x.alive());
            Check.same("full, the last one alone", 1, Check.made(Heaps::full).alive());
            Check.same("full, all", 32, Check.made(Heaps::fullAndAlive).alive());
            Check.same("full, all, of several sizes", 33, Check.made(Heaps::fullMixedAndAlive).alive());
        });
    }
}
