import java.util.NoSuchElementException;
import java.util.function.Consumer;

/** What the tests share: comparing answers, and asking for refusals that change nothing. */
final class Check {
    static final Class<?> NO_INDEX = IndexOutOfBoundsException.class;
    static final Class<?> NO_ELEMENT = NoSuchElementException.class;
    static final Class<?> BAD_ARGUMENT = IllegalArgumentException.class;
    static final Class<?> BAD_STATE = IllegalStateException.class;
    static final Class<?> UNSUPPORTED = UnsupportedOperationException.class;

    private static int wrong = 0;
    private static int asked = 0;

    private Check() {
    }

    static void same(String what, Object due, Object got) {
        asked++;
        if (!due.equals(got)) {
            wrong++;
            System.out.println(what + ": answered " + got + ", due is " + due);
        }
    }

    static Object thrownBy(ThreeCompactors x, Consumer<ThreeCompactors> call) {
        try {
            call.accept(x);
            return "nothing";
        } catch (RuntimeException e) {
            return e.getClass();
        }
    }

    /** The twin is made without the refused call, so that no object is asked more than 512 times. */
    static void refused(String what, Class<?> due, Consumer<ThreeCompactors> before, Consumer<ThreeCompactors> call) {
        ThreeCompactors x = made(before);
        ThreeCompactors twin = made(before);
        same(what + " throws", due, thrownBy(x, call));
        same(what + " changes nothing", picture(twin), picture(x));
    }

    static ThreeCompactors made(Consumer<ThreeCompactors> before) {
        ThreeCompactors x = new ThreeCompactors();
        before.accept(x);
        return x;
    }

    /** All that can be asked without a change, and the serial that the next object would get. */
    static String picture(ThreeCompactors x) {
        StringBuilder text = new StringBuilder();
        text.append("top ").append(x.top()).append(" objects ").append(x.objects()).append(" alive ").append(x.alive());
        text.append(" roots");
        for (int r = 0; r < 8; r++) {
            text.append(' ').append(x.address(r));
        }
        text.append(" words");
        for (int a = 0; a < 256; a++) {
            text.append(' ').append(x.word(a));
        }
        for (int r = 0; r < 8; r++) {
            x.clear(r);
        }
        text.append(" next ").append(x.claim(0, 0, 0));
        return text.toString();
    }

    /** The words from 0 to the top, as a text to compare with. */
    static String words(ThreeCompactors x) {
        StringBuilder text = new StringBuilder();
        for (int a = 0; a < x.top(); a++) {
            text.append(a == 0 ? "" : " ").append(x.word(a));
        }
        return text.toString();
    }

    static String serials(ThreeCompactors x) {
        StringBuilder text = new StringBuilder();
        int a = 0;
        while (a < x.top()) {
            text.append(a == 0 ? "" : " ").append(x.word(a + 1));
            a += (x.word(a) & 15) + 2;
        }
        return text.toString();
    }

    static void end(String name) {
        System.out.println(name + ": " + asked + " looked at, " + wrong + " wrong");
        if (wrong != 0) {
            System.exit(1);
        }
    }
}
