import java.util.function.Consumer;

/** The document's Terms, sentence by sentence, at their edges; compacting has a test of its own. */
public final class TermsTest {
    private static final int NONE = ThreeCompactors.NONE;
    private static final int LEAST = Integer.MIN_VALUE;
    private static final int MOST = Integer.MAX_VALUE;

    public static void main(String[] args) {
        heap();
        objects();
        fields();
        roots();
        alive();
        calls();
        Check.end("TermsTest");
    }

    private static void heap() {
        Check.sentence("The heap has 256 words, at the addresses 0 .. 255", TermsTest::heapHas256Words);
        Check.sentence("The words are ints", TermsTest::wordsAreInts);
        Check.sentence("Objects stand one behind the other from address 0 on", TermsTest::objectsStandTogether);
        Check.sentence("The top is the address behind the last one", TermsTest::topIsBehindTheLastOne);
        Check.sentence("Words from the top on are 0", TermsTest::wordsFromTheTopOn);
    }

    private static void heapHas256Words() {
        for (int fields = 0; fields <= 6; fields++) {
            ThreeCompactors x = new ThreeCompactors();
            int fit = 256 / (fields + 2);
            for (int i = 1; i <= fit; i++) {
                Check.same("object " + i + " with " + fields + " fields", i, x.allocate(i % 8, fields));
            }
            int f = fields;
            Check.same("one more with " + f, Check.BAD_STATE, Check.thrownBy(x, y -> y.allocate(0, f)));
            Check.same("objects with " + f, fit, x.objects());
        }
        ThreeCompactors x = Check.made(Heaps::full);
        Check.same("word 0", 6, x.word(0));
        Check.same("word 249, the last serial", 32, x.word(249));
        x.put(0, 5, -7);
        Check.same("word 255", -7, x.word(255));
    }

    private static void wordsAreInts() {
        ThreeCompactors x = Check.made(Heaps::full);
        for (int v : new int[] {LEAST, LEAST + 1, -2, -1, 0, 1, 256, MOST - 1, MOST}) {
            x.put(0, 5, v);
            Check.same("the last word", v, x.word(255));
            x.put(0, 0, v);
            Check.same("the first field", v, x.word(250));
            Check.same("the head", 6, x.word(248));
        }
    }

    private static void objectsStandTogether() {
        ThreeCompactors x = new ThreeCompactors();
        int place = 0;
        for (int i = 0; i < 14; i++) {
            int fields = i < 7 ? i : 13 - i;
            x.allocate(i % 8, fields);
            Check.same("address of object " + (i + 1), place, x.address(i % 8));
            Check.same("its serial stands behind its head", i + 1, x.word(place + 1));
            place += fields + 2;
        }
        x.compact(0);
        Check.same("compacted, too", "7 8 9 10 11 12 13 14", Check.serials(x));
        Check.same("the first at 0", 0, x.address(6));
    }

    private static void topIsBehindTheLastOne() {
        ThreeCompactors x = new ThreeCompactors();
        Check.same("empty", 0, x.top());
        x.allocate(0, 0);
        Check.same("the smallest", 2, x.top());
        x.allocate(0, 6);
        Check.same("the largest", 10, x.top());
        Heaps.fillUpTo(x, 0, 255);
        Check.same("one word left", 255, x.top());
        Check.same("full to the last word", 256, Check.made(Heaps::full).top());
        Check.same("full of the smallest", 256, smallest().top());
        x.compact(0);
        Check.same("the last one alone, of 5 words", 5, x.top());
        x.clear(0);
        x.compact(2);
        Check.same("empty again", 0, x.top());
    }

    private static ThreeCompactors smallest() {
        ThreeCompactors x = new ThreeCompactors();
        for (int i = 0; i < 128; i++) {
            x.allocate(i % 8, 0);
        }
        return x;
    }

    /** 32 objects of 8 words without a 0 in them. */
    private static void fullOfMinusOnes(ThreeCompactors x) {
        for (int i = 0; i < 32; i++) {
            x.allocate(i % 8, 6);
            for (int k = 0; k < 6; k++) {
                x.put(i % 8, k, -1);
            }
        }
    }

    private static void wordsFromTheTopOn() {
        Check.zeroFromTheTopOn("empty", new ThreeCompactors());
        Check.zeroFromTheTopOn("one object", Check.made(x -> x.allocate(0, 6)));
        for (int way = 0; way <= 2; way++) {
            for (int kept = 0; kept <= 8; kept++) {
                ThreeCompactors x = Check.made(TermsTest::fullOfMinusOnes);
                for (int r = kept; r < 8; r++) {
                    x.clear(r);
                }
                x.compact(way);
                Check.same("top", 8 * kept, x.top());
                Check.zeroFromTheTopOn("way " + way + " with " + kept + " alive", x);
            }
            ThreeCompactors x = Check.made(TermsTest::fullOfMinusOnes);
            Check.same("claim", 33, x.claim(0, 0, way));
            Check.same("its top", 66, x.top());
            Check.zeroFromTheTopOn("claim by way " + way, x);
            x.allocate(1, 6);
            Check.same("a new object's fields there", "6 34 0 0 0 0 0 0", Check.words(x, 66, 74));
        }
    }

    private static void objects() {
        Check.sentence("An object with f fields, 0 .. 6, has f + 2 words", TermsTest::objectHasTwoWordsMore);
        Check.sentence("The head: f + 16 * strong + 1024 * weak", TermsTest::heads);
        Check.sentence("The head, when a field changes what it has", TermsTest::headsChange);
        Check.sentence("Serials: 1, 2, .. , in the order in which objects are made", TermsTest::serials);
    }

    private static void objectHasTwoWordsMore() {
        for (int fields = 0; fields <= 6; fields++) {
            ThreeCompactors x = new ThreeCompactors();
            x.allocate(0, fields);
            Check.same("top behind " + fields, fields + 2, x.top());
            x.allocate(1, 0);
            Check.same("the next one's address", fields + 2, x.address(1));
            for (int k = 0; k < fields; k++) {
                x.put(0, k, 50 + k);
                Check.same("field " + k + " of " + fields, 50 + k, x.word(2 + k));
            }
            Check.same("the next one is as it was", "0 2", x.word(fields + 2) + " " + x.word(fields + 3));
        }
    }

    /** Every mixture of numbers, strong and weak references in objects of every size. */
    private static void heads() {
        int mixtures = 1;
        for (int fields = 0; fields <= 6; fields++) {
            for (int mixture = 0; mixture < mixtures; mixture++) {
                headOf(fields, mixture);
            }
            mixtures *= 3;
        }
    }

    private static void headOf(int fields, int mixture) {
        ThreeCompactors x = new ThreeCompactors();
        x.allocate(0, fields);
        int due = fields;
        int rest = mixture;
        for (int k = 0; k < fields; k++) {
            set(x, k, rest % 3);
            due += rest % 3 == 1 ? 16 * power(k) : rest % 3 == 2 ? 1024 * power(k) : 0;
            rest /= 3;
        }
        Check.same("head of mixture " + mixture + " in " + fields, due, x.word(0));
        rest = mixture;
        for (int k = 0; k < fields; k++) {
            Check.same("kind " + k + " of mixture " + mixture + " in " + fields, rest % 3, x.kind(0, k));
            rest /= 3;
        }
    }

    private static int power(int k) {
        return k == 0 ? 1 : 2 * power(k - 1);
    }

    private static void set(ThreeCompactors x, int k, int kind) {
        if (kind == 0) {
            x.put(0, k, -1);
        } else {
            x.refer(0, k, 0, kind == 2);
        }
    }

    private static void headsChange() {
        for (int others = 0; others <= 2; others++) {
            for (int change = 0; change < 9; change++) {
                for (int k = 0; k < 6; k++) {
                    headChanges(others, change / 3, change % 3, k);
                }
            }
        }
    }

    private static void headChanges(int others, int before, int then, int k) {
        ThreeCompactors x = new ThreeCompactors();
        x.allocate(0, 6);
        for (int i = 0; i < 6; i++) {
            set(x, i, others);
        }
        set(x, k, before);
        set(x, k, then);
        int[] unit = {0, 16, 1024};
        int due = 6 + unit[others] * (63 - power(k)) + unit[then] * power(k);
        Check.same("field " + k + " from " + before + " to " + then + " among " + others, due, x.word(0));
    }

    private static void serials() {
        ThreeCompactors x = new ThreeCompactors();
        Check.same("the first", 1, x.allocate(7, 6));
        Check.same("the second", 2, x.claim(0, 0, 1));
        Check.thrownBy(x, y -> y.allocate(8, 0));
        Check.thrownBy(x, y -> y.allocate(0, 7));
        Check.thrownBy(x, y -> y.claim(0, 0, 3));
        Check.same("refused calls make none", 3, x.allocate(1, 1));
        for (int r = 0; r < 8; r++) {
            x.clear(r);
        }
        x.compact(0);
        Check.same("those that went are not used again", 4, x.allocate(0, 0));
        Check.same("the word", 4, x.word(1));
        Check.same("another heap begins anew", 1, new ThreeCompactors().allocate(0, 0));
        ThreeCompactors full = Check.made(Heaps::fullAndAlive);
        Check.thrownBy(full, y -> y.allocate(5, 0));
        Check.thrownBy(full, y -> y.claim(5, 0, 0));
        Check.thrownBy(full, y -> y.claim(5, 0, 1));
        full.clear(0);
        full.clear(1);
        Check.same("what didn't fit has no serial", 33, full.claim(0, 0, 2));
    }

    private static void fields() {
        Check.sentence("A field has a number, the word itself", TermsTest::numbers);
        Check.sentence("or a reference: the word is its address", TermsTest::references);
        Check.sentence("or to nothing (-1)", TermsTest::nothing);
    }

    private static void numbers() {
        ThreeCompactors x = new ThreeCompactors();
        x.allocate(0, 6);
        int[] values = {LEAST, MOST, -1, 0, 255, 256};
        for (int k = 0; k < 6; k++) {
            x.put(0, k, values[k]);
        }
        Check.same("words", "6 1 -2147483648 2147483647 -1 0 255 256", Check.words(x));
        for (int k = 0; k < 6; k++) {
            Check.same("kind " + k, 0, x.kind(0, k));
        }
        Check.same("no number keeps an object alive", 1, x.alive());
    }

    private static void references() {
        ThreeCompactors x = new ThreeCompactors();
        x.allocate(0, 2);
        Heaps.fillUpTo(x, 1, 254);
        x.allocate(2, 0);
        Check.same("the last object stands at 254", 254, x.address(2));
        x.refer(0, 0, 0, false);
        x.refer(0, 1, 2, true);
        Check.same("to itself, at 0", 0, x.word(2));
        Check.same("its kind tells it from the number 0", 1, x.kind(0, 0));
        Check.same("to the last one", 254, x.word(3));
        Check.same("follow to the first", true, x.follow(0, 0, 5));
        Check.same("it is the first", 1, x.serial(5));
        Check.same("follow to the last", true, x.follow(0, 1, 6));
        Check.same("it is the last", 254, x.address(6));
    }

    private static void nothing() {
        ThreeCompactors x = new ThreeCompactors();
        x.allocate(0, 3);
        x.refer(0, 0, 7, false);
        x.refer(0, 1, 7, true);
        x.put(0, 2, -1);
        Check.same("words", "2067 1 -1 -1 -1", Check.words(x));
        Check.same("kinds", "1 2 0", x.kind(0, 0) + " " + x.kind(0, 1) + " " + x.kind(0, 2));
        Check.same("follow a strong one", false, x.follow(0, 0, 3));
        Check.same("follow a weak one", false, x.follow(0, 1, 3));
        Check.same("follow the number", Check.BAD_STATE, Check.thrownBy(x, y -> y.follow(0, 2, 3)));
        Check.same("alive", 1, x.alive());
    }

    private static void roots() {
        Check.sentence("There are roots 0 .. 7, each of which has an object", () -> {
            ThreeCompactors x = new ThreeCompactors();
            for (int r = 7; r >= 0; r--) {
                x.allocate(r, 0);
            }
            Check.same("roots", "8@14 7@12 6@10 5@8 4@6 3@4 2@2 1@0", Check.roots(x));
        });
        Check.sentence("or nothing (at first)", () -> {
            ThreeCompactors x = new ThreeCompactors();
            Check.same("roots", "-1@-1 -1@-1 -1@-1 -1@-1 -1@-1 -1@-1 -1@-1 -1@-1", Check.roots(x));
            x.allocate(3, 0);
            Check.same("the others still", "-1@-1 -1@-1 -1@-1 1@0 -1@-1 -1@-1 -1@-1 -1@-1", Check.roots(x));
        });
    }

    private static void alive() {
        Check.sentence("An object is alive if a root has it", TermsTest::aliveByRoots);
        Check.sentence("or a strong reference of an object that is alive refers to it", TermsTest::aliveByFields);
        Check.sentence("of an object that is alive: not of one that isn't", TermsTest::notAliveByTheDead);
        Check.sentence("a strong reference: not a weak one", TermsTest::notAliveByWeak);
        Check.sentence("alive through long chains", TermsTest::aliveByChains);
    }

    private static void aliveByRoots() {
        for (int r = 0; r < 8; r++) {
            int root = r;
            ThreeCompactors x = Check.made(y -> y.allocate(root, 0));
            Check.same("root " + r, 1, x.alive());
            x.copy((r + 1) % 8, r);
            Check.same("two roots, one object", 1, x.alive());
            x.clear(r);
            Check.same("the other root has it", 1, x.alive());
            x.clear((r + 1) % 8);
            Check.same("no root has it", 0, x.alive());
        }
        Check.same("none in an empty heap", 0, new ThreeCompactors().alive());
        Check.same("8 of 128", 8, smallest().alive());
    }

    private static void aliveByFields() {
        for (int k = 0; k < 6; k++) {
            ThreeCompactors x = new ThreeCompactors();
            x.allocate(0, 0);
            x.allocate(1, 6);
            x.refer(1, k, 0, false);
            x.clear(0);
            Check.same("by field " + k, 2, x.alive());
            x.put(1, k, 0);
            Check.same("the number 0 is no reference to it", 1, x.alive());
        }
        ThreeCompactors x = new ThreeCompactors();
        x.allocate(0, 6);
        for (int k = 0; k < 6; k++) {
            x.allocate(1, 0);
            x.refer(0, k, 1, false);
        }
        x.clear(1);
        Check.same("six by six fields", 7, x.alive());
    }

    private static void notAliveByTheDead() {
        ThreeCompactors self = new ThreeCompactors();
        self.allocate(0, 1);
        self.refer(0, 0, 0, false);
        Check.same("to itself, with a root", 1, self.alive());
        self.clear(0);
        Check.same("to itself, without", 0, self.alive());

        ThreeCompactors ring = Check.made(TermsTest::ringOfThree);
        Check.same("a ring with three roots", 3, ring.alive());
        ring.clear(0);
        ring.clear(2);
        Check.same("a ring with one root", 3, ring.alive());
        ring.clear(1);
        Check.same("a ring without", 0, ring.alive());

        ThreeCompactors x = new ThreeCompactors();
        x.allocate(0, 1);
        x.allocate(1, 0);
        x.refer(0, 0, 1, false);
        x.clear(1);
        Check.same("by the first", 2, x.alive());
        x.clear(0);
        Check.same("the first is not alive", 0, x.alive());
        Check.same("they are still there", 2, x.objects());
    }

    private static void ringOfThree(ThreeCompactors x) {
        for (int r = 0; r < 3; r++) {
            x.allocate(r, 2);
        }
        for (int r = 0; r < 3; r++) {
            x.refer(r, 1, (r + 1) % 3, false);
        }
    }

    private static void notAliveByWeak() {
        for (int k = 0; k < 6; k++) {
            ThreeCompactors x = new ThreeCompactors();
            x.allocate(0, 6);
            x.allocate(1, 1);
            x.allocate(2, 0);
            x.refer(0, k, 1, true);
            x.refer(1, 0, 2, false);
            x.clear(2);
            Check.same("with a root", 3, x.alive());
            x.clear(1);
            Check.same("by weak field " + k + " alone", 1, x.alive());
            x.follow(0, k, 3);
            Check.same("followed, it has a root again, and what it refers to", 3, x.alive());
            x.clear(3);
            x.refer(0, (k + 1) % 6, 0, true);
            Check.same("weak to itself", 1, x.alive());
            x.clear(0);
            Check.same("and without a root", 0, x.alive());
        }
        ThreeCompactors both = new ThreeCompactors();
        both.allocate(0, 2);
        both.allocate(1, 0);
        both.refer(0, 0, 1, true);
        both.refer(0, 1, 1, false);
        both.clear(1);
        Check.same("by a strong one beside the weak one", 2, both.alive());
    }

    private static void aliveByChains() {
        for (int fields = 1; fields <= 6; fields++) {
            int count = 256 / (fields + 2);
            ThreeCompactors x = new ThreeCompactors();
            Heaps.chain(x, fields, count, -1);
            Check.same("a chain as long as the heap, " + fields, count, x.alive());
            x.clear((count - 1) % 2 == 0 ? 1 : 0);
            Check.same("by its end alone", count, x.alive());
            x.put((count - 1) % 2, 0, 0);
            Check.same("cut behind its end", 1, x.alive());
        }
    }

    private static void calls() {
        Check.sentence("An object is used for at most 512 calls", () -> {
            for (int way = 0; way <= 2; way++) {
                ThreeCompactors x = new ThreeCompactors();
                for (int call = 1; call <= 512; call++) {
                    Check.same("claim " + call + " by way " + way, call, x.claim(call % 8, 6, way));
                }
            }
        });
        Check.sentence("two objects of the class have nothing in common", () -> {
            Consumer<ThreeCompactors> rich = Heaps::rich;
            ThreeCompactors x = Check.made(rich);
            ThreeCompactors y = Check.made(Heaps::full);
            y.clear(0);
            y.compact(0);
            Check.same("the other is as it was", Check.picture(Check.made(rich)), Check.picture(x));
        });
        Check.same("NONE", -1, NONE);
    }
}
