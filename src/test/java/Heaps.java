import java.util.function.Consumer;

/** Heaps that tests begin with. */
final class Heaps {
    static final int WORDS = 256;

    private Heaps() {
    }

    static void empty(ThreeCompactors x) {
    }

    /** Root 0: an object with two fields; root 1: one with one field; root 2: one with none. */
    static void three(ThreeCompactors x) {
        x.allocate(0, 2);
        x.allocate(1, 1);
        x.allocate(2, 0);
    }

    /**
     * Something of everything: references to the object itself, to nothing, to one that is not alive, numbers
     * at both ends. Roots 3 to 6 have nothing.
     */
    static void rich(ThreeCompactors x) {
        x.allocate(0, 6);
        x.allocate(6, 1);
        x.allocate(1, 1);
        x.allocate(2, 0);
        x.allocate(7, 6);
        x.put(0, 0, Integer.MIN_VALUE);
        x.refer(0, 1, 0, false);
        x.refer(0, 2, 6, true);
        x.refer(0, 3, 1, false);
        x.refer(0, 4, 5, true);
        x.put(0, 5, -1);
        x.put(6, 0, 77);
        x.refer(1, 0, 5, false);
        x.refer(7, 0, 0, true);
        x.put(7, 5, Integer.MAX_VALUE);
        x.clear(6);
    }

    /** 32 objects of 8 words, all of which but the last one no root has. */
    static void full(ThreeCompactors x) {
        fillUpTo(x, 0, WORDS);
    }

    /** A full heap with objects of several sizes: roots 7 and 0 have the first and the last one. */
    static void fullMixed(ThreeCompactors x) {
        x.allocate(7, 0);
        fillUpTo(x, 0, WORDS);
    }

    /** A chain of 32 objects of 8 words, all alive: roots 0 and 1 have the last two. */
    static void fullAndAlive(ThreeCompactors x) {
        chain(x, 6, 32, -1);
    }

    /** As fullAndAlive, but of several sizes: the last object has 6 words, the first one 2. */
    static void fullMixedAndAlive(ThreeCompactors x) {
        x.allocate(7, 0);
        chain(x, 6, 31, -1);
        x.allocate(2, 4);
    }

    /** Objects that root r has one after the other, of 8 words where they fit. */
    static void fillUpTo(ThreeCompactors x, int r, int wanted) {
        int rest = wanted - x.top();
        while (rest >= 2) {
            // 9 words are 7 and 2, for no object has 1
            int size = rest == 9 ? 7 : Math.min(rest, 8);
            x.allocate(r, size - 2);
            rest -= size;
        }
    }

    static Consumer<ThreeCompactors> withFree(int free) {
        return x -> fillUpTo(x, 0, WORDS - free);
    }

    /**
     * Objects of one size, each of which has in field 0 a strong reference to the one before it; roots 0 and 1
     * have the last two. The one with the number dead (from 0 on) is left out of the chain, and no root has it.
     */
    static void chain(ThreeCompactors x, int fields, int count, int dead) {
        int r = 0;
        for (int i = 0; i < count; i++) {
            if (i == dead) {
                x.allocate(6, fields);
            } else {
                x.allocate(r, fields);
                x.refer(r, 0, 1 - r, false);
                r = 1 - r;
            }
        }
        x.clear(6);
    }
}
