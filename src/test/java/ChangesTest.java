import java.util.function.Consumer;

/**
 * "Nothing is promised beyond the answers and state changes described above": each call changes what its promise
 * says and nothing else. All begin with the rich heap: objects 1 to 5 at 0, 8, 11, 14 and 16, the second of which
 * is not alive; roots 0, 1, 2 and 7 have the others; the top is 24.
 */
public final class ChangesTest {
    private static final String NOTHING = "";

    public static void main(String[] args) {
        making();
        compacting();
        roots();
        fields();
        asking();
        Check.end("ChangesTest");
    }

    private static void changes(String what, String due, Consumer<ThreeCompactors> call) {
        Check.same(what + " changes", due, Check.changes(Heaps::rich, call));
    }

    private static void making() {
        Check.sentence("2: allocate makes an object at the top; root r has it", () -> {
            changes("allocate(3, 0)", "top: 24 to 26, objects: 5 to 6, alive: 4 to 5, root 3: -1 to 24, "
                + "word 25: 0 to 6, next: 6 to 7", x -> x.allocate(3, 0));
            changes("allocate(3, 6)", "top: 24 to 32, objects: 5 to 6, alive: 4 to 5, root 3: -1 to 24, "
                + "word 24: 0 to 6, word 25: 0 to 6, next: 6 to 7", x -> x.allocate(3, 6));
            changes("allocate(2, 1), over an object", "top: 24 to 27, objects: 5 to 6, root 2: 14 to 24, "
                + "word 24: 0 to 1, word 25: 0 to 6, next: 6 to 7", x -> x.allocate(2, 1));
        });
        Check.sentence("3: claim as allocate", () -> {
            for (int way = 0; way <= 2; way++) {
                int by = way;
                changes("claim(2, 1, " + way + ")", "top: 24 to 27, objects: 5 to 6, root 2: 14 to 24, "
                    + "word 24: 0 to 1, word 25: 0 to 6, next: 6 to 7", x -> x.claim(2, 1, by));
            }
        });
    }

    private static void compacting() {
        Check.sentence("4: compact: objects that are not alive go, the others are moved", () -> {
            for (int way = 0; way <= 2; way += 2) {
                int by = way;
                changes("compact(" + way + ")", "top: 24 to 21, objects: 5 to 4, "
                    + "root 1: 11 to 8, root 2: 14 to 11, root 7: 16 to 13, word 4: 8 to -1, word 5: 11 to 8, "
                    + "word 8: 1 to 17, word 9: 2 to 3, word 10: 77 to -1, "
                    + "word 11: 17 to 0, word 12: 3 to 4, "
                    + "word 13: -1 to 1030, word 14: 0 to 5, word 15: 4 to 0, word 16: 1030 to 0, word 17: 5 to 0, "
                    + "word 20: 0 to 2147483647, word 23: 2147483647 to 0", x -> x.compact(by));
            }
        });
    }

    private static void roots() {
        Check.sentence("5: copy: root r has what root q has", () -> {
            changes("copy(3, 1)", "root 3: -1 to 11", x -> x.copy(3, 1));
            changes("copy(1, 7)", "root 1: 11 to 16", x -> x.copy(1, 7));
            changes("copy(1, 3)", "root 1: 11 to -1", x -> x.copy(1, 3));
            changes("copy(2, 3), the last that has it", "alive: 4 to 3, root 2: 14 to -1", x -> x.copy(2, 3));
            changes("copy(4, 3)", NOTHING, x -> x.copy(4, 3));
        });
        Check.sentence("6: clear: root r has nothing", () -> {
            changes("clear(1)", "root 1: 11 to -1", x -> x.clear(1));
            changes("clear(7), the last that has it", "alive: 4 to 3, root 7: 16 to -1", x -> x.clear(7));
            changes("clear(3)", NOTHING, x -> x.clear(3));
        });
    }

    private static void fields() {
        Check.sentence("7: put: field k of root r's object becomes a number", () -> {
            changes("put over a number", "word 19: 0 to 9", x -> x.put(7, 1, 9));
            changes("put over the same number", NOTHING, x -> x.put(0, 5, -1));
            changes("put over a strong reference", "word 0: 20646 to 20518, word 5: 11 to 9", x -> x.put(0, 3, 9));
            changes("put over a weak reference", "word 0: 20646 to 16550, word 4: 8 to 9", x -> x.put(0, 2, 9));
            changes("put of the word that was there", "word 0: 20646 to 16550", x -> x.put(0, 2, 8));
        });
        Check.sentence("8: refer: field k of root r's object becomes a reference", () -> {
            changes("strong over a number", "word 16: 1030 to 1158, word 21: 0 to 14", x -> x.refer(7, 3, 2, false));
            changes("weak over a number", "word 16: 1030 to 9222, word 21: 0 to 14", x -> x.refer(7, 3, 2, true));
            changes("to nothing", "word 16: 1030 to 33798, word 23: 2147483647 to -1", x -> x.refer(7, 5, 3, true));
            changes("weak over strong", "word 0: 20646 to 28710, word 5: 11 to 16", x -> x.refer(0, 3, 7, true));
            changes("strong over weak", "word 0: 20646 to 16614, word 4: 8 to 16", x -> x.refer(0, 2, 7, false));
            changes("the same again", NOTHING, x -> x.refer(0, 3, 1, false));
        });
        Check.sentence("9: follow: root q has what field k of root r's object refers to", () -> {
            changes("strong", "root 6: -1 to 11", x -> x.follow(0, 3, 6));
            changes("weak, to what is not alive", "alive: 4 to 5, root 6: -1 to 8", x -> x.follow(0, 2, 6));
            changes("over an object", "alive: 4 to 3, root 7: 16 to 0", x -> x.follow(0, 1, 7));
            changes("to nothing", "alive: 4 to 3, root 2: 14 to -1", x -> x.follow(0, 4, 2));
            changes("to itself", NOTHING, x -> x.follow(0, 1, 0));
        });
    }

    private static void asking() {
        Check.sentence("10 to 16: calls that ask change nothing", () -> {
            changes("kind", NOTHING, x -> {
                for (int k = 0; k < 6; k++) {
                    x.kind(0, k);
                    x.kind(7, k);
                }
                x.kind(1, 0);
            });
            changes("serial and address", NOTHING, x -> {
                for (int r = 0; r < 8; r++) {
                    x.serial(r);
                    x.address(r);
                }
            });
            // in two halves, for the 512 calls that an object is good for
            changes("word, the lower half", NOTHING, x -> askWords(x, 0, 128));
            changes("word, the upper half", NOTHING, x -> askWords(x, 128, 256));
            changes("top", NOTHING, x -> x.top());
            changes("objects", NOTHING, x -> x.objects());
            changes("alive", NOTHING, x -> x.alive());
        });
    }

    private static void askWords(ThreeCompactors x, int from, int to) {
        for (int a = from; a < to; a++) {
            x.word(a);
        }
    }
}
