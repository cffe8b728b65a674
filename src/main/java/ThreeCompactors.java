import java.util.Arrays;
import java.util.NoSuchElementException;

/** A heap of objects that one of three ways moves together when room is wanted. */
public final class ThreeCompactors {
    public static final int NONE = -1;

    private static final int HEAP_WORDS = 256;
    private static final int ROOTS = 8;
    private static final int MOST_FIELDS = 6;
    private static final int LAST_WAY = 2;
    private static final int TWO_FINGERS = 1;

    private static final int SERIAL_OFFSET = 1;
    private static final int FIELDS_OFFSET = 2;
    private static final int MOST_OBJECTS = HEAP_WORDS / FIELDS_OFFSET;

    private static final int FIELD_COUNT_MASK = 15;
    private static final int FIRST_STRONG_BIT = 16;
    private static final int FIRST_WEAK_BIT = 1024;

    private static final int NUMBER = 0;
    private static final int STRONG = 1;
    private static final int WEAK = 2;

    private final int[] words = new int[HEAP_WORDS];
    private final int[] roots = new int[ROOTS];

    /** The addresses of the objects, rising; objectCount of them count. */
    private final int[] starts = new int[MOST_OBJECTS];

    /** The addresses of the objects that the last search found alive; reachedCount of them count. */
    private final int[] reached = new int[MOST_OBJECTS];

    /** By an object's address: where it is to stand; NONE if the last search didn't find it alive. */
    private final int[] newAddress = new int[HEAP_WORDS];

    private int top;
    private int objectCount;
    private int reachedCount;
    private int lastSerial;

    public ThreeCompactors() {
        Arrays.fill(roots, NONE);
    }

    public int allocate(int r, int fields)
            throws IndexOutOfBoundsException, IllegalArgumentException, IllegalStateException {
        requireRoot(r);
        requireFieldCount(fields);
        requireRoom(fields);
        return makeObject(r, fields);
    }

    public int claim(int r, int fields, int way)
            throws IndexOutOfBoundsException, IllegalArgumentException, UnsupportedOperationException,
            IllegalStateException {
        requireRoot(r);
        requireFieldCount(fields);
        requireWay(way);
        if (!hasRoom(fields)) {
            requireSizesFor(way);
            moveTogether(way);
            requireRoom(fields);
        }
        return makeObject(r, fields);
    }

    public int compact(int way) throws IllegalArgumentException, UnsupportedOperationException {
        requireWay(way);
        requireSizesFor(way);
        int oldTop = top;
        moveTogether(way);
        return oldTop - top;
    }

    public void copy(int r, int q) throws IndexOutOfBoundsException {
        requireRoot(r);
        requireRoot(q);
        roots[r] = roots[q];
    }

    public void clear(int r) throws IndexOutOfBoundsException {
        requireRoot(r);
        roots[r] = NONE;
    }

    public void put(int r, int k, int v) throws IndexOutOfBoundsException, NoSuchElementException {
        requireRoot(r);
        requireObjectWithField(r, k);
        setField(roots[r], k, NUMBER, v);
    }

    public void refer(int r, int k, int q, boolean weak)
            throws IndexOutOfBoundsException, NoSuchElementException {
        requireRoot(r);
        requireRoot(q);
        requireObjectWithField(r, k);
        setField(roots[r], k, weak ? WEAK : STRONG, roots[q]);
    }

    public boolean follow(int r, int k, int q)
            throws IndexOutOfBoundsException, NoSuchElementException, IllegalStateException {
        requireRoot(r);
        requireRoot(q);
        requireObjectWithField(r, k);
        requireReference(roots[r], k);
        roots[q] = words[fieldAddress(roots[r], k)];
        return roots[q] != NONE;
    }

    public int kind(int r, int k) throws IndexOutOfBoundsException, NoSuchElementException {
        requireRoot(r);
        requireObjectWithField(r, k);
        return fieldKind(roots[r], k);
    }

    public int serial(int r) throws IndexOutOfBoundsException {
        requireRoot(r);
        return roots[r] == NONE ? NONE : words[roots[r] + SERIAL_OFFSET];
    }

    public int address(int r) throws IndexOutOfBoundsException {
        requireRoot(r);
        return roots[r];
    }

    public int word(int address) throws IndexOutOfBoundsException {
        if (address < 0 || address >= HEAP_WORDS) {
            throw new IndexOutOfBoundsException("no such address");
        }
        return words[address];
    }

    public int top() {
        return top;
    }

    public int objects() {
        return objectCount;
    }

    public int alive() {
        findAlive();
        return reachedCount;
    }

    private static void requireRoot(int r) {
        if (r < 0 || r >= ROOTS) {
            throw new IndexOutOfBoundsException("no such root");
        }
    }

    private static void requireFieldCount(int fields) {
        if (fields < 0 || fields > MOST_FIELDS) {
            throw new IllegalArgumentException("an object has 0 to 6 fields");
        }
    }

    private static void requireWay(int way) {
        if (way < 0 || way > LAST_WAY) {
            throw new IllegalArgumentException("the ways are 0 to 2");
        }
    }

    private void requireRoom(int fields) {
        if (!hasRoom(fields)) {
            throw new IllegalStateException("the object doesn't fit");
        }
    }

    private void requireSizesFor(int way) {
        if (way == TWO_FINGERS && !isOneSize()) {
            throw new UnsupportedOperationException("way 1 is for objects of one size");
        }
    }

    private void requireObjectWithField(int r, int k) {
        if (roots[r] == NONE) {
            throw new NoSuchElementException("the root has nothing");
        }
        if (k < 0 || k >= fieldCount(roots[r])) {
            throw new IndexOutOfBoundsException("no such field");
        }
    }

    private void requireReference(int object, int k) {
        if (fieldKind(object, k) == NUMBER) {
            throw new IllegalStateException("the field has a number");
        }
    }

    private boolean hasRoom(int fields) {
        return top + FIELDS_OFFSET + fields <= HEAP_WORDS;
    }

    private boolean isOneSize() {
        for (int i = 1; i < objectCount; i++) {
            if (fieldCount(starts[i]) != fieldCount(starts[0])) {
                return false;
            }
        }
        return true;
    }

    /** The fields need no writing: words from the top on are 0, and that is the number 0. */
    private int makeObject(int r, int fields) {
        lastSerial++;
        words[top] = fields;
        words[top + SERIAL_OFFSET] = lastSerial;
        roots[r] = top;
        starts[objectCount] = top;
        objectCount++;
        top += FIELDS_OFFSET + fields;
        return lastSerial;
    }

    private int fieldCount(int object) {
        return words[object] & FIELD_COUNT_MASK;
    }

    private int sizeOf(int object) {
        return FIELDS_OFFSET + fieldCount(object);
    }

    private static int fieldAddress(int object, int k) {
        return object + FIELDS_OFFSET + k;
    }

    private int fieldKind(int object, int k) {
        int head = words[object];
        if ((head & (FIRST_STRONG_BIT << k)) != 0) {
            return STRONG;
        }
        return (head & (FIRST_WEAK_BIT << k)) != 0 ? WEAK : NUMBER;
    }

    private void setField(int object, int k, int newKind, int value) {
        int strongBit = FIRST_STRONG_BIT << k;
        int weakBit = FIRST_WEAK_BIT << k;
        int head = words[object] & ~(strongBit | weakBit);
        if (newKind == STRONG) {
            head |= strongBit;
        } else if (newKind == WEAK) {
            head |= weakBit;
        }
        words[object] = head;
        words[fieldAddress(object, k)] = value;
    }

    /** An object is entered once, so that the row of those reached can't run over and rings end. */
    private void findAlive() {
        Arrays.fill(newAddress, NONE);
        reachedCount = 0;
        for (int r = 0; r < ROOTS; r++) {
            reach(roots[r]);
        }
        for (int i = 0; i < reachedCount && i < MOST_OBJECTS; i++) {
            reachFrom(reached[i]);
        }
    }

    private void reach(int object) {
        if (object != NONE && newAddress[object] == NONE) {
            newAddress[object] = object;
            reached[reachedCount] = object;
            reachedCount++;
        }
    }

    private void reachFrom(int object) {
        int fields = fieldCount(object);
        for (int k = 0; k < fields; k++) {
            if (fieldKind(object, k) == STRONG) {
                reach(words[fieldAddress(object, k)]);
            }
        }
    }

    /** References are changed before objects move, while the old addresses still find their words. */
    private void moveTogether(int way) {
        findAlive();
        if (way == TWO_FINGERS) {
            planTwoFingers();
        } else {
            planSlide();
        }
        redirectRoots();
        for (int i = 0; i < reachedCount; i++) {
            redirectFields(reached[i]);
        }
        moveObjects();
        listObjects();
    }

    /** Ways 0 and 2 ask for the same places, so one plan does for both. */
    private void planSlide() {
        int free = 0;
        for (int i = 0; i < objectCount; i++) {
            int object = starts[i];
            if (newAddress[object] != NONE) {
                newAddress[object] = free;
                free += sizeOf(object);
            }
        }
    }

    /** The fingers meet at the border of the first n places, so n need not be known before. */
    private void planTwoFingers() {
        int low = 0;
        int high = objectCount - 1;
        while (low < high) {
            if (newAddress[starts[low]] != NONE) {
                low++;
            } else if (newAddress[starts[high]] == NONE) {
                high--;
            } else {
                newAddress[starts[high]] = starts[low];
                low++;
                high--;
            }
        }
    }

    private void redirectRoots() {
        for (int r = 0; r < ROOTS; r++) {
            roots[r] = addressAfterMove(roots[r]);
        }
    }

    private void redirectFields(int object) {
        int fields = fieldCount(object);
        for (int k = 0; k < fields; k++) {
            if (fieldKind(object, k) != NUMBER) {
                int field = fieldAddress(object, k);
                words[field] = addressAfterMove(words[field]);
            }
        }
    }

    /** An object that is not alive has NONE as its new address, which is what a weak reference to it gets. */
    private int addressAfterMove(int object) {
        return object == NONE ? NONE : newAddress[object];
    }

    /** Rising order never writes over an object that is still to move: no plan moves one upwards. */
    private void moveObjects() {
        for (int i = 0; i < objectCount; i++) {
            int object = starts[i];
            if (newAddress[object] != NONE) {
                System.arraycopy(words, object, words, newAddress[object], sizeOf(object));
            }
        }
    }

    private void listObjects() {
        int next = 0;
        for (int i = 0; i < reachedCount; i++) {
            starts[i] = next;
            next += sizeOf(next);
        }
        objectCount = reachedCount;
        Arrays.fill(words, next, top, 0);
        top = next;
    }
}
