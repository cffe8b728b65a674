import java.util.ArrayList;
import java.util.LinkedHashMap;
import java.util.List;
import java.util.Map;
import java.util.NoSuchElementException;
import java.util.function.Consumer;

/** What the tests share: comparing answers, and asking for refusals that change nothing. */
final class Check {
    static final Class<?> NO_INDEX = IndexOutOfBoundsException.class;
    static final Class<?> NO_ELEMENT = NoSuchElementException.class;
    static final Class<?> BAD_ARGUMENT = IllegalArgumentException.class;
    static final Class<?> BAD_STATE = IllegalStateException.class;
    static final Class<?> UNSUPPORTED = UnsupportedOperationException.class;

    /** What thrownBy answers for a call that throws nothing. */
    static final Object NOTHING = "nothing";

    private static int wrong = 0;
    private static int asked = 0;
    private static String sentence = "";

    private Check() {
    }

    /** A sentence of the document, told with all that goes wrong in its test; a test must look at something. */
    static void sentence(String words, Runnable test) {
        sentence = words + " | ";
        int before = asked;
        try {
            test.run();
        } catch (RuntimeException e) {
            tell("threw " + e);
        }
        if (asked == before) {
            tell("nothing was looked at");
        }
        sentence = "";
    }

    static void same(String what, Object due, Object got) {
        asked++;
        if (!due.equals(got)) {
            tell(what + ": answered " + got + ", due is " + due);
        }
    }

    private static void tell(String what) {
        wrong++;
        System.out.println(sentence + what);
    }

    static Object thrownBy(ThreeCompactors x, Consumer<ThreeCompactors> call) {
        try {
            call.accept(x);
            return NOTHING;
        } catch (RuntimeException e) {
            return e.getClass();
        }
    }

    static void refused(String what, Class<?> due, Consumer<ThreeCompactors> before, Consumer<ThreeCompactors> call) {
        refusedBut(what, due, before, call, x -> { });
    }

    /**
     * A refused call that leaves behind what another call does. The twin gets that other call instead of the
     * refused one, so that no object is asked more than 512 times.
     */
    static void refusedBut(String what, Class<?> due, Consumer<ThreeCompactors> before,
            Consumer<ThreeCompactors> call, Consumer<ThreeCompactors> left) {
        ThreeCompactors x = made(before);
        ThreeCompactors twin = made(before);
        same(what + " throws", due, thrownBy(x, call));
        left.accept(twin);
        same(what + " leaves", picture(twin), picture(x));
    }

    static void accepted(String what, Consumer<ThreeCompactors> before, Consumer<ThreeCompactors> call) {
        same(what + " throws", NOTHING, thrownBy(made(before), call));
    }

    static ThreeCompactors made(Consumer<ThreeCompactors> before) {
        ThreeCompactors x = new ThreeCompactors();
        before.accept(x);
        return x;
    }

    /** All that can be asked without a change, and the serial that the next object would get. */
    static String picture(ThreeCompactors x) {
        return state(x).toString();
    }

    private static Map<String, Integer> state(ThreeCompactors x) {
        Map<String, Integer> state = new LinkedHashMap<>();
        state.put("top", x.top());
        state.put("objects", x.objects());
        state.put("alive", x.alive());
        for (int r = 0; r < 8; r++) {
            state.put("root " + r, x.address(r));
        }
        for (int a = 0; a < 256; a++) {
            state.put("word " + a, x.word(a));
        }
        for (int r = 0; r < 8; r++) {
            x.clear(r);
        }
        state.put("next", x.claim(0, 0, 0));
        return state;
    }

    /** All that a call makes another than it was, in the order of state(): "root 3: -1 to 11, word 4: 8 to 5". */
    static String changes(Consumer<ThreeCompactors> before, Consumer<ThreeCompactors> call) {
        ThreeCompactors x = made(before);
        call.accept(x);
        Map<String, Integer> then = state(x);
        List<String> changed = new ArrayList<>();
        for (Map.Entry<String, Integer> was : state(made(before)).entrySet()) {
            Integer is = then.get(was.getKey());
            if (!is.equals(was.getValue())) {
                changed.add(was.getKey() + ": " + was.getValue() + " to " + is);
            }
        }
        return String.join(", ", changed);
    }

    /** The words from 0 to the top, as a text to compare with. */
    static String words(ThreeCompactors x) {
        return words(x, 0, x.top());
    }

    static String words(ThreeCompactors x, int from, int to) {
        StringBuilder text = new StringBuilder();
        for (int a = from; a < to; a++) {
            text.append(a == from ? "" : " ").append(x.word(a));
        }
        return text.toString();
    }

    static String serials(ThreeCompactors x) {
        StringBuilder text = new StringBuilder();
        int top = x.top();
        int a = 0;
        while (a < top) {
            text.append(a == 0 ? "" : " ").append(x.word(a + 1));
            a += (x.word(a) & 15) + 2;
        }
        return text.toString();
    }

    static String roots(ThreeCompactors x) {
        StringBuilder text = new StringBuilder();
        for (int r = 0; r < 8; r++) {
            text.append(r == 0 ? "" : " ").append(x.serial(r)).append('@').append(x.address(r));
        }
        return text.toString();
    }

    static void zeroFromTheTopOn(String what, ThreeCompactors x) {
        int sum = 0;
        for (int a = x.top(); a < 256; a++) {
            sum += x.word(a) == 0 ? 0 : 1;
        }
        same(what + ": words from the top on that are not 0", 0, sum);
    }

    static void end(String name) {
        System.out.println(name + ": " + asked + " looked at, " + wrong + " wrong");
        if (wrong != 0) {
            System.exit(1);
        }
    }
}
