/**
 * What the boundary tests have in common. The classes that hold them extend this one for its names; each static
 * method with a Sentence is a test, which throws what it finds wrong.
 */
abstract class Checks {
    static final Class<?> INDEX = IndexOutOfBoundsException.class;
    static final Class<?> ARGUMENT = IllegalArgumentException.class;
    static final Class<?> STATE = IllegalStateException.class;
    static final int MIN = Integer.MIN_VALUE;
    static final int MAX = Integer.MAX_VALUE;

    // Ways to break a method that looks for its stick by known(stick).
    static final String KNOWN = "known(stick)";
    static final String KNOWS_NEXT = "known(stick == made ? 0 : stick)";
    static final String KNOWS_MORE = "known(stick > made ? 0 : stick)";
    static final String KNOWS_LESS = "known(stick < 0 ? 0 : stick)";
    static final String KNOWN_OTHER = "known(other)";
    static final String KNOWS_NEXT_OTHER = "known(other == made ? 1 : other)";
    static final String KNOWS_MORE_OTHER = "known(other > made ? 1 : other)";
    static final String KNOWS_LESS_OTHER = "known(other < 0 ? 1 : other)";
    static final String TURN = "needTurn(turn)";
    static final String FORCE = "needForce(force)";

    interface Call {
        Object answer();
    }

    interface CallWith {
        Object answer(int number);
    }

    static void due(Object want, Object got) {
        if (!want.equals(got)) {
            throw new AssertionError("answered " + got + ", due is " + want);
        }
    }

    static Object answerOf(Call call) {
        try {
            return call.answer();
        } catch (RuntimeException thrown) {
            return thrown.getClass();
        }
    }

    static void refused(Class<?> want, Call call) {
        due(want, answerOf(call));
    }

    static void refusedFor(Class<?> want, CallWith call, int... numbers) {
        for (int number : numbers) {
            refused(want, () -> call.answer(number));
        }
    }

    static void unknownRefused(RuneSticks x, CallWith call) {
        int next = x.count(1);
        refusedFor(INDEX, call, next, next + 1, 1000, MAX, -1, -2, MIN);
    }

    static void changesNothing(RuneSticks x, Class<?> want, Call refused) {
        long before = x.digest();
        refused(want, refused);
        due(before, x.digest());
    }

    /** An object with sticks of so many places, numbered from 0. */
    static RuneSticks of(int... places) {
        RuneSticks x = new RuneSticks();
        for (int each : places) {
            x.make(each);
        }
        return x;
    }

    static RuneSticks twelveThere(int places) {
        RuneSticks x = new RuneSticks();
        for (int i = 0; i < 12; i++) {
            x.make(places);
        }
        return x;
    }

    /** Carves a side from place 0 on; -1 leaves a place free. */
    static void carve(RuneSticks x, int stick, int side, int... runes) {
        for (int place = 0; place < runes.length; place++) {
            if (runes[place] != -1) {
                x.carve(stick, side, place, runes[place]);
            }
        }
    }

    /** An object with one stick, with these runes on side 0. */
    static RuneSticks carved(int... runes) {
        RuneSticks x = of(runes.length);
        carve(x, 0, 0, runes);
        return x;
    }

    /** Adds a stick with these runes on side 0. */
    static int add(RuneSticks x, int... runes) {
        int number = x.make(runes.length);
        carve(x, number, 0, runes);
        return number;
    }

    /** Carves the same rune everywhere on a stick. */
    static void fill(RuneSticks x, int stick, int rune) {
        int places = x.stick(stick, 0);
        for (int place = 0; place < places; place++) {
            for (int side = 0; side < 3; side++) {
                x.carve(stick, side, place, rune);
            }
        }
    }

    /** An object in which stick 0 broke into 1 and 2, and 3 and 4 were glued to 5; 6 was never touched. */
    static RuneSticks someGone() {
        RuneSticks x = new RuneSticks();
        x.make(2);
        fill(x, 0, 4);
        x.bend(0, 20);
        fill(x, x.make(2), 4);
        fill(x, x.make(2), 4);
        x.glue(3, 4, 0, 5);
        fill(x, x.make(2), 4);
        return x;
    }

    static final int[] GONE = {0, 3, 4};

    /**
     * An object that made so many sticks, of which but a few are there: the last one, of two places, and ahead of it
     * one of one place in all for 38 sticks, two for 39, and none for 40.
     */
    static RuneSticks inAll(int all) {
        RuneSticks x = new RuneSticks();
        for (int i = 0; i < (all - 1) % 3; i++) {
            x.make(1);
        }
        int last = x.make(2);
        while (last < all - 1) {
            int half = x.bend(last, 20);
            last = x.glue(half, half + 1, 0, 9);
        }
        return x;
    }
}
