/** One test method for each promise: ordinary inputs, the edges that the document names, and wrong inputs. */
public final class PromisesTest {
    private interface Call {
        Object answer();
    }

    private static final Class<?> INDEX = IndexOutOfBoundsException.class;
    private static final Class<?> ARGUMENT = IllegalArgumentException.class;
    private static final Class<?> STATE = IllegalStateException.class;
    private static int wrong = 0;

    public static void main(String[] args) {
        newObject();
        make();
        carve();
        scrape();
        roll();
        bend();
        bendWithoutRoom();
        glue();
        glueFitting();
        glueWrongly();
        stick();
        rune();
        strength();
        count();
        fits();
        size();
        reads();
        has();
        rhyme();
        best();
        pieces();
        row();
        mean();
        digest();
        System.out.println(wrong == 0 ? "all promises hold" : wrong + " answers are wrong");
        if (wrong != 0) {
            System.exit(1);
        }
    }

    private static void due(String what, Object want, Object got) {
        if (!want.equals(got)) {
            wrong++;
            System.out.println(what + " answered " + got + ", due is " + want);
        }
    }

    private static void refused(String what, Class<?> want, RuneSticks object, Call call) {
        long before = object.digest();
        Object got;
        try {
            got = call.answer();
        } catch (RuntimeException thrown) {
            got = thrown.getClass();
        }
        due(what, want, got);
        due(what + ", then digest", before, object.digest());
    }

    /** Carves side 0 from place 0 on; -1 leaves a place free. */
    private static int made(RuneSticks x, int... runes) {
        int number = x.make(runes.length);
        carved(x, number, 0, runes);
        return number;
    }

    private static void carved(RuneSticks x, int stick, int side, int... runes) {
        for (int place = 0; place < runes.length; place++) {
            if (runes[place] != -1) {
                x.carve(stick, side, place, runes[place]);
            }
        }
    }

    private static long digestOf(long... numbers) {
        long d = 1019;
        for (long number : numbers) {
            d = d * 31 + number;
        }
        return d;
    }

    private static void newObject() {
        RuneSticks x = new RuneSticks();
        for (int what = 0; what <= 6; what++) {
            due("new: count " + what, 0, x.count(what));
        }
        refused("new: stick 0", INDEX, x, () -> x.stick(0, 0));
    }

    private static void make() {
        RuneSticks x = new RuneSticks();
        due("make 1", 0, x.make(1));
        due("make 12", 1, x.make(12));
        due("made: places", 12, x.stick(1, 0));
        due("made: up", 0, x.stick(1, 1));
        due("made: runes", 0, x.stick(1, 2));
        due("made: glued", 0, x.stick(1, 3));
        due("made: begin", -1, x.stick(1, 4));
        due("made: end", -1, x.stick(1, 5));
        due("made: gone", 0, x.stick(1, 6));
        due("made: rune", -1, x.rune(1, 2, 11));
        for (int places : new int[] {0, -1, 13, Integer.MIN_VALUE, Integer.MAX_VALUE}) {
            refused("make " + places, ARGUMENT, x, () -> x.make(places));
        }
        for (int i = 2; i < 12; i++) {
            due("make the next", i, x.make(3));
        }
        refused("make a 13th", STATE, x, () -> x.make(3));
        refused("make a 13th, wrong places", ARGUMENT, x, () -> x.make(0));
        RuneSticks y = usedUp(39);
        due("39 sticks", 39, y.count(1));
        due("make the 40th", 39, y.make(1));
        refused("make a 41st", STATE, y, () -> y.make(1));
        refused("make a 41st, wrong places", ARGUMENT, y, () -> y.make(13));
    }

    /** So many sticks in all, of which but a few are there. */
    private static RuneSticks usedUp(int numbers) {
        RuneSticks x = new RuneSticks();
        int last = x.make(1);
        while (x.count(1) < numbers) {
            if (numbers - x.count(1) == 1 || x.stick(last, 0) == 12) {
                last = x.make(1);
            } else {
                last = x.glue(last, x.make(1), 0, 9);
            }
        }
        return x;
    }

    private static void carve() {
        RuneSticks x = new RuneSticks();
        x.make(3);
        due("carve", -1, x.carve(0, 2, 1, 7));
        due("carve again", 7, x.carve(0, 2, 1, 0));
        due("carve rune 23", 0, x.carve(0, 2, 1, 23));
        due("carved", 23, x.rune(0, 2, 1));
        due("beside", -1, x.rune(0, 1, 2));
        x.roll(0, 1);
        due("sides do not turn with the roll", 23, x.carve(0, 2, 1, 4));
        refused("carve no stick", INDEX, x, () -> x.carve(1, 0, 0, 0));
        refused("carve stick -1", INDEX, x, () -> x.carve(-1, 0, 0, 24));
        refused("carve side 3", INDEX, x, () -> x.carve(0, 3, 0, 24));
        refused("carve side -1", INDEX, x, () -> x.carve(0, -1, 1, 0));
        refused("carve place 3", INDEX, x, () -> x.carve(0, 0, 3, 0));
        refused("carve place -1", INDEX, x, () -> x.carve(0, 1, -1, -1));
        refused("carve rune 24", ARGUMENT, x, () -> x.carve(0, 0, 0, 24));
        refused("carve rune -1", ARGUMENT, x, () -> x.carve(0, 0, 0, -1));
        x.bend(0, 20);
        refused("carve gone", STATE, x, () -> x.carve(0, 0, 0, 0));
        refused("carve gone, rune 24", ARGUMENT, x, () -> x.carve(0, 0, 0, 24));
        refused("carve gone, place 3", INDEX, x, () -> x.carve(0, 0, 3, 24));
    }

    private static void scrape() {
        RuneSticks x = new RuneSticks();
        made(x, 0, 5);
        due("scrape rune 0", 0, x.scrape(0, 0, 0));
        due("scraped", -1, x.rune(0, 0, 0));
        due("not scraped", 5, x.rune(0, 0, 1));
        refused("scrape none", STATE, x, () -> x.scrape(0, 0, 0));
        refused("scrape no stick", INDEX, x, () -> x.scrape(1, 0, 1));
        refused("scrape side 3", INDEX, x, () -> x.scrape(0, 3, 1));
        refused("scrape side -1", INDEX, x, () -> x.scrape(0, -1, 1));
        refused("scrape place 2", INDEX, x, () -> x.scrape(0, 0, 2));
        refused("scrape place -1", INDEX, x, () -> x.scrape(0, 0, -1));
        x.bend(0, 20);
        refused("scrape gone", STATE, x, () -> x.scrape(0, 0, 1));
        refused("scrape gone, place 2", INDEX, x, () -> x.scrape(0, 0, 2));
        due("scrape what broke off", 5, x.scrape(2, 0, 0));
    }

    private static void roll() {
        RuneSticks x = new RuneSticks();
        x.make(2);
        due("roll 0", 0, x.roll(0, 0));
        due("roll 2", 2, x.roll(0, 2));
        due("roll 2 again", 1, x.roll(0, 2));
        due("roll 1", 2, x.roll(0, 1));
        due("up", 2, x.stick(0, 1));
        refused("roll 3", ARGUMENT, x, () -> x.roll(0, 3));
        refused("roll -1", ARGUMENT, x, () -> x.roll(0, -1));
        refused("roll no stick", INDEX, x, () -> x.roll(1, 3));
        x.bend(0, 20);
        refused("roll gone", STATE, x, () -> x.roll(0, 0));
        refused("roll gone by 3", ARGUMENT, x, () -> x.roll(0, 3));
    }

    private static void bend() {
        RuneSticks x = new RuneSticks();
        made(x, 1, 2, -1, 3, 4, -1);
        carved(x, 0, 1, -1, -1, 9, -1, -1, 10);
        x.roll(0, 1);
        due("bend as strong", -1, x.bend(0, 10));
        due("held: breaks", 0, x.count(3));
        due("bend", 1, x.bend(0, 11));
        due("gone", 1, x.stick(0, 6));
        due("gone: as it was", 6, x.stick(0, 0));
        due("first: places, of several the first joint", 1, x.stick(1, 0));
        due("second: places", 5, x.stick(2, 0));
        due("first: up", 1, x.stick(1, 1));
        due("second: up", 1, x.stick(2, 1));
        due("first: begin", -1, x.stick(1, 4));
        due("first: end", 0, x.stick(1, 5));
        due("second: begin", 0, x.stick(2, 4));
        due("second: end", -1, x.stick(2, 5));
        due("first: rune", 1, x.rune(1, 0, 0));
        due("second: rune", 2, x.rune(2, 0, 0));
        due("second: rune of side 1", 10, x.rune(2, 1, 4));
        due("one place has no joint", -1, x.bend(1, 20));
        x.carve(2, 2, 3, 0);
        x.carve(2, 2, 4, 0);
        due("bend again", 3, x.bend(2, 12));
        due("again first: places", 4, x.stick(3, 0));
        due("again first: begin stays", 0, x.stick(3, 4));
        due("again first: end", 1, x.stick(3, 5));
        due("again second: begin", 1, x.stick(4, 4));
        due("again second: end stays", -1, x.stick(4, 5));
        due("breaks", 2, x.count(3));
        due("bend the one between", 5, x.bend(3, 11));
        due("its begin stays", 0, x.stick(5, 4));
        due("its end is break 2", 2, x.stick(5, 5));
        due("begin of the last half", 2, x.stick(6, 4));
        due("its end stays of break 1", 1, x.stick(6, 5));
        refused("bend gone", STATE, x, () -> x.bend(0, 20));
        refused("bend gone that would hold", STATE, x, () -> x.bend(0, 1));
        refused("bend gone with 21", ARGUMENT, x, () -> x.bend(0, 21));
        refused("bend with 0", ARGUMENT, x, () -> x.bend(1, 0));
        refused("bend no stick", INDEX, x, () -> x.bend(7, 0));
        x.glue(6, 1, 1, 5);
        x.make(2);
        x.glue(7, 8, 0, 9);
        int ofGlue = x.stick(6, 0);
        due("a glued joint is weaker", 10, x.bend(9, 5));
        due("it breaks in the glue", ofGlue, x.stick(10, 0));
        due("this joint is gone", 0, x.stick(10, 3));
        due("the other one stays", 1, x.stick(11, 3));
    }

    private static void bendWithoutRoom() {
        RuneSticks x = new RuneSticks();
        for (int i = 0; i < 12; i++) {
            x.make(2);
        }
        due("12 there: holds", -1, x.bend(0, 12));
        refused("12 there: would break", STATE, x, () -> x.bend(0, 13));
        x.glue(0, 1, 0, 1);
        due("11 there: breaks", 13, x.bend(2, 13));
        RuneSticks y = usedUp(38);
        int whole = standingOfTwo(y);
        due("38 in all: breaks", 38, y.bend(whole, 20));
        RuneSticks z = usedUp(39);
        int held = standingOfTwo(z);
        due("39 in all: holds", -1, z.bend(held, 1));
        refused("39 in all: would break", STATE, z, () -> z.bend(held, 20));
    }

    private static int standingOfTwo(RuneSticks x) {
        for (int i = x.count(1) - 1; i >= 0; i--) {
            if (x.stick(i, 6) == 0 && x.stick(i, 0) >= 2) {
                return i;
            }
        }
        throw new AssertionError("no stick to bend");
    }

    private static void glue() {
        RuneSticks x = new RuneSticks();
        made(x, 1, 2);
        made(x, 3, 4);
        carved(x, 1, 1, -1, 12);
        carved(x, 1, 2, 20, -1);
        x.roll(0, 2);
        x.roll(1, 1);
        due("glue", 2, x.glue(0, 1, 1, 9));
        due("glued: places", 4, x.stick(2, 0));
        due("glued: up", 2, x.stick(2, 1));
        due("glued: runes", 6, x.stick(2, 2));
        due("glued: joints", 1, x.stick(2, 3));
        due("glued: first one", 2, x.rune(2, 0, 1));
        due("glued: side 0 was side 1", 12, x.rune(2, 0, 3));
        due("glued: side 1 was side 2", 20, x.rune(2, 1, 2));
        due("glued: side 2 was side 0", 3, x.rune(2, 2, 2));
        due("glued: new joint", 9 - 3, x.strength(2, 1));
        due("glued: wooden joint", 12 - 2, x.strength(2, 0));
        due("glued: first is gone", 1, x.stick(0, 6));
        due("glued: second is gone", 1, x.stick(1, 6));
        due("glued: there", 1, x.count(0));
        x.make(1);
        due("glue on", 4, x.glue(3, 2, 2, 1));
        due("joints stay", 6, x.strength(4, 2));
        due("joints in all", 2, x.stick(4, 3));
        due("twist 2: side 0 was side 2", 3, x.rune(4, 0, 3));
        due("the weakest is the new one", 5, x.bend(4, 2));
        due("it is gone with the break", 1, x.count(4));
    }

    private static void glueFitting() {
        RuneSticks x = new RuneSticks();
        x.make(3);
        x.bend(0, 20);
        x.bend(2, 20);
        // 1 | 3 | 4, with the breaks 0 and 1 between them
        due("fit and twist 0", 5, x.glue(1, 3, 0, 9));
        due("3 more", 12, x.strength(5, 0));
        due("glued though it is as strong as wood", 1, x.stick(5, 3));
        due("begin of the first one", -1, x.stick(5, 4));
        due("end of the second one", 1, x.stick(5, 5));
        due("fit but twisted", 6, x.glue(5, 4, 1, 9));
        due("none more", 9, x.strength(6, 1));
        due("the weaker one breaks", 7, x.bend(6, 10));
        due("break 2", 2, x.stick(7, 5));
        due("wrong way round", 9, x.glue(8, 7, 0, 4));
        due("none more the wrong way round", 4, x.strength(9, 0));
        due("begin of break 2", 2, x.stick(9, 4));
        due("end of break 2", 2, x.stick(9, 5));
        due("no stick fits itself", false, x.fits(9, 9));
        due("nor is it counted", 0, x.count(6));
        RuneSticks y = new RuneSticks();
        y.make(1);
        y.make(1);
        y.glue(0, 1, 0, 6);
        due("no break is not the same break", 6, y.strength(2, 0));
    }

    private static void glueWrongly() {
        RuneSticks x = new RuneSticks();
        x.make(6);
        x.make(6);
        x.make(7);
        refused("glue no stick", INDEX, x, () -> x.glue(3, 0, 3, 0));
        refused("glue no other", INDEX, x, () -> x.glue(0, 3, 3, 0));
        refused("glue stick -1", INDEX, x, () -> x.glue(-1, 0, 0, 1));
        refused("glue twist 3", ARGUMENT, x, () -> x.glue(0, 1, 3, 1));
        refused("glue twist -1", ARGUMENT, x, () -> x.glue(0, 1, -1, 1));
        refused("glue base 0", ARGUMENT, x, () -> x.glue(0, 1, 0, 0));
        refused("glue base 10", ARGUMENT, x, () -> x.glue(0, 0, 0, 10));
        refused("glue to itself", STATE, x, () -> x.glue(0, 0, 0, 1));
        refused("glue 13 places", STATE, x, () -> x.glue(0, 2, 0, 1));
        due("glue 12 places", 3, x.glue(0, 1, 0, 1));
        due("12 places", 12, x.stick(3, 0));
        x.make(1);
        refused("glue one that is gone", STATE, x, () -> x.glue(0, 4, 0, 1));
        refused("glue another that is gone", STATE, x, () -> x.glue(4, 0, 0, 1));
        refused("glue gone with base 0", ARGUMENT, x, () -> x.glue(4, 0, 0, 0));
        RuneSticks y = new RuneSticks();
        for (int i = 0; i < 12; i++) {
            y.make(1);
        }
        due("glue while 12 are there", 12, y.glue(0, 1, 0, 1));
        RuneSticks w = usedUp(38);
        w.make(1);
        due("glue the 40th", 39, w.glue(37, 38, 0, 1));
        RuneSticks z = usedUp(39);
        z.make(1);
        refused("glue a 41st", STATE, z, () -> z.glue(38, 39, 0, 1));
    }

    private static void stick() {
        RuneSticks x = new RuneSticks();
        made(x, 1, 2, 3);
        x.roll(0, 2);
        int[] want = {3, 2, 3, 0, -1, -1, 0};
        for (int what = 0; what <= 6; what++) {
            int asked = what;
            due("stick " + what, want[what], x.stick(0, what));
            refused("stick 1, " + what, INDEX, x, () -> x.stick(1, asked));
        }
        x.bend(0, 11);
        x.scrape(2, 0, 0);
        want[6] = 1;
        for (int what = 0; what <= 6; what++) {
            due("gone stick " + what, want[what], x.stick(0, what));
        }
        refused("stick 0, 7", INDEX, x, () -> x.stick(0, 7));
        refused("stick 0, -1", INDEX, x, () -> x.stick(0, -1));
        refused("stick -1", INDEX, x, () -> x.stick(-1, 0));
        refused("stick 40", INDEX, x, () -> x.stick(40, 0));
        refused("stick min", INDEX, x, () -> x.stick(Integer.MIN_VALUE, 0));
        refused("stick max", INDEX, x, () -> x.stick(Integer.MAX_VALUE, 0));
    }

    private static void rune() {
        RuneSticks x = new RuneSticks();
        made(x, 1, 22);
        x.carve(0, 2, 1, 6);
        due("rune", 22, x.rune(0, 0, 1));
        due("no rune", -1, x.rune(0, 1, 1));
        x.bend(0, 20);
        x.scrape(2, 2, 0);
        due("gone rune", 6, x.rune(0, 2, 1));
        refused("rune side 3", INDEX, x, () -> x.rune(0, 3, 0));
        refused("rune side -1", INDEX, x, () -> x.rune(0, -1, 1));
        refused("rune place 2", INDEX, x, () -> x.rune(0, 0, 2));
        refused("rune place -1", INDEX, x, () -> x.rune(0, 0, -1));
        refused("rune no stick", INDEX, x, () -> x.rune(3, 0, 0));
    }

    private static void strength() {
        RuneSticks x = new RuneSticks();
        x.make(3);
        due("wooden", 12, x.strength(0, 1));
        x.carve(0, 0, 0, 1);
        due("one rune", 11, x.strength(0, 0));
        due("a rune elsewhere", 12, x.strength(0, 1));
        for (int side = 0; side < 3; side++) {
            carved(x, 0, side, 1, 1, 1);
        }
        due("six runes", 6, x.strength(0, 0));
        x.make(1);
        carved(x, 1, 0, 3);
        x.glue(0, 1, 0, 2);
        due("at least 0", 0, x.strength(2, 2));
        due("gone", 6, x.strength(0, 1));
        due("0 is not weaker than 0, but than 1", 3, x.bend(2, 1));
        due("the last joint of 12 places", 12, x.strength(x.make(12), 10));
        refused("strength joint 11 of 12 places", INDEX, x, () -> x.strength(5, 11));
        refused("strength joint 2", INDEX, x, () -> x.strength(0, 2));
        refused("strength joint -1", INDEX, x, () -> x.strength(0, -1));
        refused("strength of one place", INDEX, x, () -> x.strength(1, 0));
        refused("strength no stick", INDEX, x, () -> x.strength(6, 0));
    }

    private static void counted(String what, RuneSticks x, int... want) {
        for (int i = 0; i < want.length; i++) {
            due(what + ": count " + i, want[i], x.count(i));
        }
    }

    private static void count() {
        RuneSticks x = new RuneSticks();
        made(x, 1, 2, 3, 4);
        counted("one", x, 1, 1, 4, 0, 0, 4, 0);
        x.bend(0, 20);
        counted("broken", x, 2, 3, 4, 1, 0, 4, 1);
        x.bend(2, 20);
        counted("broken twice", x, 3, 5, 4, 2, 0, 4, 2);
        x.glue(4, 1, 0, 3);
        counted("glued", x, 2, 6, 4, 2, 1, 4, 2);
        x.scrape(3, 0, 0);
        x.make(5);
        counted("scraped and made", x, 3, 7, 3, 2, 1, 9, 2);
        x.glue(3, 5, 0, 3);
        counted("glued twice", x, 2, 8, 3, 2, 2, 9, 0);
        refused("count 7", INDEX, x, () -> x.count(7));
        refused("count -1", INDEX, x, () -> x.count(-1));
    }

    private static void fits() {
        RuneSticks x = new RuneSticks();
        x.make(3);
        x.make(2);
        x.bend(0, 20);
        due("fits", true, x.fits(2, 3));
        due("the other way round", false, x.fits(3, 2));
        due("never broken", false, x.fits(1, 1));
        due("of no break", false, x.fits(1, 2));
        x.bend(3, 20);
        due("one is gone", false, x.fits(2, 3));
        due("of the same break on", true, x.fits(2, 4));
        due("of the next break", true, x.fits(4, 5));
        due("of two breaks", false, x.fits(2, 5));
        x.glue(1, 2, 0, 1);
        due("first is gone", false, x.fits(2, 4));
        due("glued to another one", true, x.fits(6, 4));
        refused("fits no stick", INDEX, x, () -> x.fits(7, 0));
        refused("fits no other", INDEX, x, () -> x.fits(0, 7));
        refused("fits -1", INDEX, x, () -> x.fits(0, -1));
    }

    private static RuneSticks spiral() {
        RuneSticks x = new RuneSticks();
        x.make(5);
        carved(x, 0, 0, 1, 2, -1, 3, -1);
        carved(x, 0, 1, -1, 10, 11, -1, 12);
        carved(x, 0, 2, -1, 20, 21, -1, -1);
        return x;
    }

    private static void size() {
        RuneSticks x = spiral();
        due("size 0", 3, x.size(0, 0));
        due("size 1", 5, x.size(0, 1));
        due("size 2", 4, x.size(0, 2));
        x.roll(0, 1);
        due("size 0, rolled", 3, x.size(0, 0));
        due("size 1, rolled", 1, x.size(0, 1));
        x.bend(0, 20);
        due("size, gone", 1, x.size(0, 1));
        refused("size turn 3", ARGUMENT, x, () -> x.size(0, 3));
        refused("size turn -1", ARGUMENT, x, () -> x.size(0, -1));
        refused("size no stick", INDEX, x, () -> x.size(3, 3));
    }

    private static void readingIs(String what, RuneSticks x, int turn, int... want) {
        for (int i = 0; i < want.length; i++) {
            due(what + ": rune " + i, want[i], x.reads(0, turn, i));
        }
        refused(what + ": too many", ARGUMENT, x, () -> x.reads(0, turn, want.length));
    }

    private static void reads() {
        RuneSticks x = spiral();
        readingIs("turn 0", x, 0, 1, 2, 3);
        readingIs("turn 1", x, 1, 1, 10, 21, 3, 12);
        readingIs("turn 2", x, 2, 1, 20, 11, 3);
        x.roll(0, 2);
        readingIs("rolled, turn 0", x, 0, 20, 21);
        readingIs("rolled, turn 1", x, 1, 2, 11);
        readingIs("rolled, turn 2", x, 2, 10, 12);
        x.bend(0, 20);
        readingIs("gone, turn 1", x, 1, 2, 11);
        refused("reads index -1", ARGUMENT, x, () -> x.reads(0, 0, -1));
        refused("reads index max", ARGUMENT, x, () -> x.reads(0, 0, Integer.MAX_VALUE));
        refused("reads turn 3", ARGUMENT, x, () -> x.reads(0, 3, 0));
        refused("reads turn -1", ARGUMENT, x, () -> x.reads(0, -1, 0));
        refused("reads no stick", INDEX, x, () -> x.reads(3, 3, -1));
    }

    private static void has() {
        RuneSticks x = spiral();
        due("has over a free place", 1, x.has(0, 2, 3));
        due("has at the beginning", 1, x.has(0, 1, 10));
        due("has of one turn", 1, x.has(0, 10, 21));
        due("not this way round", 0, x.has(0, 21, 10));
        due("not directly behind", 0, x.has(0, 1, 3));
        due("not behind itself", 0, x.has(0, 1, 1));
        RuneSticks y = new RuneSticks();
        y.make(3);
        for (int side = 0; side < 3; side++) {
            carved(y, 0, side, 5, 5, 5);
        }
        due("has in all", 9, y.has(0, 5, 5));
        y.roll(0, 1);
        y.bend(0, 20);
        due("has, gone", 9, y.has(0, 5, 5));
        due("has not, one place", 0, y.has(1, 5, 5));
        refused("has rune 24", ARGUMENT, y, () -> y.has(0, 24, 0));
        refused("has rune -1", ARGUMENT, y, () -> y.has(0, -1, 0));
        refused("has next 24", ARGUMENT, y, () -> y.has(0, 0, 24));
        refused("has next -1", ARGUMENT, y, () -> y.has(0, 0, -1));
        refused("has no stick", INDEX, y, () -> y.has(3, 24, 24));
    }

    private static void rhyme() {
        RuneSticks x = new RuneSticks();
        made(x, 7, 3, 9, 16);
        made(x, 7, 2, -1, 9, -1, 23);
        made(x, 16);
        made(x, 15, 8);
        x.make(2);
        due("rhyme", 1 + 2 + 1 + 2, x.rhyme(0, 1, 0));
        due("rhyme, the shorter one ends", 2, x.rhyme(0, 2, 0));
        due("rhyme, one family", 1, x.rhyme(2, 1, 0));
        due("rhyme, two families", 0, x.rhyme(3, 0, 0));
        due("rhyme with no runes", 0, x.rhyme(4, 0, 0));
        due("rhyme with itself", 8, x.rhyme(0, 0, 0));
        x.carve(0, 0, 1, 12);
        due("rhyme stops at two families", 3, x.rhyme(1, 0, 0));
        x.roll(0, 2);
        due("rhyme rolled, turn 1", 1, x.rhyme(0, 1, 1));
        x.carve(0, 2, 3, 17);
        due("rhyme of one side up and another", 1, x.rhyme(0, 2, 0));
        x.bend(0, 20);
        due("rhyme, gone", 1, x.rhyme(0, 2, 0));
        refused("rhyme turn 3", ARGUMENT, x, () -> x.rhyme(0, 1, 3));
        refused("rhyme turn -1", ARGUMENT, x, () -> x.rhyme(0, 1, -1));
        refused("rhyme no stick", INDEX, x, () -> x.rhyme(7, 0, 3));
        refused("rhyme no other", INDEX, x, () -> x.rhyme(0, 7, 3));
    }

    private static void best() {
        RuneSticks x = new RuneSticks();
        made(x, 1, 9);
        x.make(2);
        carved(x, 1, 0, 17, 18);
        carved(x, 1, 1, 5, 10);
        carved(x, 1, 2, 1, 9);
        due("best", 2, x.best(1, 0, 0));
        due("best changes nothing", 0, x.stick(1, 1));
        x.carve(1, 1, 0, 1);
        x.carve(1, 1, 1, 9);
        due("best, of several the least", 1, x.best(1, 0, 0));
        x.roll(0, 1);
        due("best, none rhymes", 0, x.best(1, 0, 0));
        x.roll(1, 2);
        due("best of itself", 1, x.best(1, 1, 0));
        x.scrape(1, 1, 1);
        due("best of itself as it lies", 2, x.best(1, 1, 0));
        x.bend(1, 20);
        due("best, gone", 2, x.best(1, 1, 0));
        refused("best turn 3", ARGUMENT, x, () -> x.best(0, 1, 3));
        refused("best turn -1", ARGUMENT, x, () -> x.best(0, 1, -1));
        refused("best no stick", INDEX, x, () -> x.best(4, 0, 3));
        refused("best no other", INDEX, x, () -> x.best(0, 4, 3));
    }

    private static void pieces() {
        RuneSticks x = new RuneSticks();
        made(x, 1, 2, -1, -1, 3);
        due("none breaks", 1, x.pieces(0, 10));
        due("one breaks", 2, x.pieces(0, 11));
        due("two more break", 4, x.pieces(0, 12));
        due("all break", 5, x.pieces(0, 13));
        due("nothing is changed", 0, x.count(3));
        x.make(1);
        due("one place", 1, x.pieces(1, 20));
        x.bend(0, 11);
        due("pieces, gone", 2, x.pieces(0, 11));
        due("of a half", 3, x.pieces(3, 12));
        refused("pieces force 0", ARGUMENT, x, () -> x.pieces(0, 0));
        refused("pieces force 21", ARGUMENT, x, () -> x.pieces(0, 21));
        refused("pieces no stick", INDEX, x, () -> x.pieces(4, 0));
        RuneSticks y = new RuneSticks();
        for (int i = 0; i < 12; i++) {
            y.make(12);
        }
        due("more than can be there", 12, y.pieces(11, 20));
    }

    private static void row() {
        RuneSticks x = new RuneSticks();
        made(x, 1, 9);
        made(x, 2, 9);
        made(x, 1, 10);
        made(x, 20);
        due("row", 3, x.row(0, 0));
        due("row of one", 1, x.row(3, 0));
        made(x, 20, 9);
        due("row of more: 0, 1, 2, 4", 4, x.row(0, 0));
        RuneSticks y = new RuneSticks();
        made(y, 0, 9);
        made(y, 9);
        made(y, 16, 9);
        made(y, 23, 0);
        y.roll(3, 1);
        made(y, 8);
        due("row of equals, by number", 4, y.row(0, 0));
        y.roll(0, 1);
        due("row, nothing read", 1, y.row(0, 0));
        due("row, another turn", 1, y.row(3, 2));
        y.bend(0, 20);
        due("row without those that are gone", 3, y.row(1, 0));
        refused("row gone", STATE, y, () -> y.row(0, 0));
        refused("row gone, turn 3", ARGUMENT, y, () -> y.row(0, 3));
        refused("row turn -1", ARGUMENT, y, () -> y.row(1, -1));
        refused("row no stick", INDEX, y, () -> y.row(7, 3));
        RuneSticks z = new RuneSticks();
        made(z, 8);
        made(z, 0, 15);
        made(z, 0, 16);
        made(z, 16, 9);
        z.make(1);
        due("row goes by the last runes only", 3, z.row(0, 0));
        due("row from its middle", 3, z.row(3, 0));
        due("row of one without runes", 1, z.row(4, 0));
    }

    private static void mean() {
        RuneSticks x = new RuneSticks();
        due("mean of none", 0.0, x.mean());
        x.make(3);
        due("mean without runes", 0.0, x.mean());
        made(x, 1, 2);
        due("mean", 1.0, x.mean());
        made(x, 3, 4);
        x.scrape(2, 0, 0);
        due("mean 3 by 3", 1.0, x.mean());
        x.bend(1, 20);
        due("mean without the one that is gone", 3.0 / 4.0, x.mean());
    }

    private static void digest() {
        RuneSticks x = new RuneSticks();
        due("digest, new", digestOf(0, 0, 0, 0, 0, 0, 0), x.digest());
        x.make(2);
        x.carve(0, 1, 0, 7);
        x.carve(0, 2, 1, 23);
        x.roll(0, 2);
        due("digest of one", digestOf(1, 1, 2, 0, 0, 2, 0,
            2, 2, 2, 0, -1, -1, 0, -1, 7, -1, -1, -1, 23, 12), x.digest());
        x.bend(0, 20);
        x.glue(1, 2, 0, 4);
        due("digest of more", digestOf(1, 4, 2, 1, 1, 2, 0,
            2, 2, 2, 0, -1, -1, 1, -1, 7, -1, -1, -1, 23, 12,
            1, 2, 1, 0, -1, 0, 1, -1, 7, -1,
            1, 2, 1, 0, 0, -1, 1, -1, -1, 23,
            2, 2, 2, 1, -1, -1, 0, -1, 7, -1, -1, -1, 23, 7), x.digest());
    }
}
