import java.util.ArrayList;
import java.util.List;

/**
 * Compares RuneSticks, call by call, with a model that does word for word what the document says:
 * it writes readings out, breaks copies to count pieces, and builds rows one stick after the other.
 */
public final class ModelTest {
    private static final int OBJECTS = 300;
    private static final int CALLS = 512;
    private static final String[] NAMES = {"make", "carve", "scrape", "roll", "bend", "glue", "stick", "rune",
        "strength", "count", "fits", "size", "reads", "has", "rhyme", "best", "pieces", "row", "mean", "digest"};
    private static final int[] SEEN = new int[NAMES.length];
    private static final int[] REFUSED = new int[NAMES.length];

    private static long seed = 20261119;

    public static void main(String[] args) {
        for (int object = 0; object < OBJECTS; object++) {
            if (!sameAnswers(object)) {
                System.exit(1);
            }
        }
        for (int call = 0; call < NAMES.length; call++) {
            boolean neverRefused = call >= 18;
            if (SEEN[call] < 200 || !neverRefused && REFUSED[call] < 200) {
                System.out.println(NAMES[call] + ": too few answers (" + SEEN[call] + ") or refusals ("
                    + REFUSED[call] + ") to tell anything");
                System.exit(1);
            }
        }
        System.out.println("the class answers as the model does");
    }

    private static boolean sameAnswers(int object) {
        RuneSticks real = new RuneSticks();
        Model model = new Model();
        for (int i = 0; i < CALLS; i++) {
            int call = nextCall(object);
            int[] a = arguments(call, model, object);
            Object want = answer(() -> modelAnswer(model, call, a));
            Object got = answer(() -> realAnswer(real, call, a));
            if (want instanceof Class) {
                REFUSED[call]++;
            } else {
                SEEN[call]++;
            }
            if (!want.equals(got) || model.digest() != real.digest()) {
                System.out.println("object " + object + ", call " + i + ": " + NAMES[call] + " "
                    + java.util.Arrays.toString(a) + " answered " + got + ", due is " + want
                    + "; digests " + real.digest() + ", " + model.digest());
                return false;
            }
        }
        return true;
    }

    private static int below(int bound) {
        seed = seed * 6364136223846793005L + 1442695040888963407L;
        return (int) ((seed >>> 33) % bound);
    }

    /** Some objects are asked to carve more, so that long readings and weak joints come about. */
    private static int nextCall(int object) {
        return object % 3 != 0 && below(2) == 0 ? 1 : below(NAMES.length);
    }

    private static int near(int from, int to) {
        int odd = below(60);
        if (odd == 0) {
            return from - 1;
        }
        if (odd == 1) {
            return to + 1;
        }
        if (odd == 2) {
            int[] far = {Integer.MIN_VALUE, Integer.MAX_VALUE, -100, 100};
            return far[below(4)];
        }
        return to < from ? from : from + below(to - from + 1);
    }

    private static int aStick(Model model) {
        int all = model.sticks.size();
        List<Integer> there = model.there();
        if (!there.isEmpty() && below(10) < 8) {
            return there.get(below(there.size()));
        }
        return near(0, all - 1);
    }

    private static int aRune(int object) {
        // Few different runes make pairs and rhymes likely.
        return object % 2 == 0 ? near(0, 23) : near(7, 9);
    }

    private static int[] arguments(int call, Model model, int object) {
        int stick = aStick(model);
        int places = stick >= 0 && stick < model.sticks.size() ? model.sticks.get(stick).places.size() : 3;
        switch (NAMES[call]) {
            case "make":
                return new int[] {below(3) == 0 ? near(1, 12) : near(1, 4)};
            case "carve":
                return new int[] {stick, near(0, 2), near(0, places - 1), aRune(object)};
            case "scrape":
            case "rune":
                return new int[] {stick, near(0, 2), near(0, places - 1)};
            case "bend":
            case "pieces":
                return new int[] {stick, below(2) == 0 ? near(1, 20) : near(3, 12)};
            case "glue":
                return glueArguments(model, stick);
            case "stick":
                return new int[] {stick, near(0, 6)};
            case "strength":
                return new int[] {stick, near(0, places - 2)};
            case "count":
                return new int[] {near(0, 6)};
            case "fits":
                return new int[] {stick, below(2) == 0 ? near(stick, stick + 1) : aStick(model)};
            case "reads":
                return new int[] {stick, near(0, 2), near(0, places / 2)};
            case "has":
                return new int[] {stick, aRune(object), aRune(object)};
            case "rhyme":
            case "best":
                return new int[] {stick, aStick(model), near(0, 2)};
            default:
                return new int[] {stick, near(0, 2)};
        }
    }

    private static int[] glueArguments(Model model, int stick) {
        int other = aStick(model);
        int first = stick;
        if (below(2) == 0) {
            for (int one : model.there()) {
                for (int two : model.there()) {
                    if (model.fits(one, two)) {
                        first = one;
                        other = two;
                    }
                }
            }
        }
        return new int[] {first, other, near(0, 2), near(1, 9)};
    }

    private interface Call {
        Object answer();
    }

    private static Object answer(Call call) {
        try {
            return call.answer();
        } catch (RuntimeException thrown) {
            return thrown.getClass();
        }
    }

    private static Object realAnswer(RuneSticks x, int call, int[] a) {
        switch (NAMES[call]) {
            case "make": return x.make(a[0]);
            case "carve": return x.carve(a[0], a[1], a[2], a[3]);
            case "scrape": return x.scrape(a[0], a[1], a[2]);
            case "roll": return x.roll(a[0], a[1]);
            case "bend": return x.bend(a[0], a[1]);
            case "glue": return x.glue(a[0], a[1], a[2], a[3]);
            case "stick": return x.stick(a[0], a[1]);
            case "rune": return x.rune(a[0], a[1], a[2]);
            case "strength": return x.strength(a[0], a[1]);
            case "count": return x.count(a[0]);
            case "fits": return x.fits(a[0], a[1]);
            case "size": return x.size(a[0], a[1]);
            case "reads": return x.reads(a[0], a[1], a[2]);
            case "has": return x.has(a[0], a[1], a[2]);
            case "rhyme": return x.rhyme(a[0], a[1], a[2]);
            case "best": return x.best(a[0], a[1], a[2]);
            case "pieces": return x.pieces(a[0], a[1]);
            case "row": return x.row(a[0], a[1]);
            case "mean": return x.mean();
            default: return x.digest();
        }
    }

    private static Object modelAnswer(Model x, int call, int[] a) {
        switch (NAMES[call]) {
            case "make": return x.make(a[0]);
            case "carve": return x.carve(a[0], a[1], a[2], a[3]);
            case "scrape": return x.scrape(a[0], a[1], a[2]);
            case "roll": return x.roll(a[0], a[1]);
            case "bend": return x.bend(a[0], a[1]);
            case "glue": return x.glue(a[0], a[1], a[2], a[3]);
            case "stick": return x.stick(a[0], a[1]);
            case "rune": return x.rune(a[0], a[1], a[2]);
            case "strength": return x.strength(a[0], a[1]);
            case "count": return x.count(a[0]);
            case "fits": return x.fits(a[0], a[1]);
            case "size": return x.size(a[0], a[1]);
            case "reads": return x.reads(a[0], a[1], a[2]);
            case "has": return x.has(a[0], a[1], a[2]);
            case "rhyme": return x.rhyme(a[0], a[1], a[2]);
            case "best": return x.best(a[0], a[1], a[2]);
            case "pieces": return x.pieces(a[0], a[1]);
            case "row": return x.row(a[0], a[1]);
            case "mean": return x.mean();
            default: return x.digest();
        }
    }

    private static void index(boolean right) {
        if (!right) {
            throw new IndexOutOfBoundsException();
        }
    }

    private static void argument(boolean right) {
        if (!right) {
            throw new IllegalArgumentException();
        }
    }

    private static void state(boolean right) {
        if (!right) {
            throw new IllegalStateException();
        }
    }

    private static final class Joint {
        final int base;
        final boolean glued;

        Joint(int base, boolean glued) {
            this.base = base;
            this.glued = glued;
        }
    }

    private static final class Stick {
        final List<int[]> places = new ArrayList<>();
        final List<Joint> joints = new ArrayList<>();
        int up = 0;
        int begin = -1;
        int end = -1;
        boolean gone = false;

        int runes() {
            int sum = 0;
            for (int[] place : places) {
                sum += carved(place);
            }
            return sum;
        }

        static int carved(int[] place) {
            int sum = 0;
            for (int rune : place) {
                sum += rune < 0 ? 0 : 1;
            }
            return sum;
        }

        int strength(int joint) {
            int less = carved(places.get(joint)) + carved(places.get(joint + 1));
            return Math.max(joints.get(joint).base - less, 0);
        }

        int breaksAt(int force) {
            int found = -1;
            int least = force;
            for (int joint = 0; joint < joints.size(); joint++) {
                if (strength(joint) < least) {
                    least = strength(joint);
                    found = joint;
                }
            }
            return found;
        }

        Stick part(int from, int to) {
            Stick part = new Stick();
            for (int[] place : places.subList(from, to)) {
                part.places.add(place.clone());
            }
            part.joints.addAll(joints.subList(from, to - 1));
            part.up = up;
            return part;
        }

        List<Integer> reading(int sideUp, int turn) {
            List<Integer> reading = new ArrayList<>();
            int side = sideUp;
            for (int[] place : places) {
                if (place[side] >= 0) {
                    reading.add(place[side]);
                }
                side = (side + turn) % 3;
            }
            return reading;
        }

        int pieces(int force) {
            int joint = breaksAt(force);
            if (joint < 0) {
                return 1;
            }
            return part(0, joint + 1).pieces(force) + part(joint + 1, places.size()).pieces(force);
        }
    }

    private static final class Model {
        final List<Stick> sticks = new ArrayList<>();
        int breaks = 0;

        List<Integer> there() {
            List<Integer> there = new ArrayList<>();
            for (int i = 0; i < sticks.size(); i++) {
                if (!sticks.get(i).gone) {
                    there.add(i);
                }
            }
            return there;
        }

        Stick known(int stick) {
            index(stick >= 0 && stick < sticks.size());
            return sticks.get(stick);
        }

        static void turn(int turn) {
            argument(turn >= 0 && turn <= 2);
        }

        static void place(Stick stick, int side, int place) {
            index(side >= 0 && side <= 2 && place >= 0 && place < stick.places.size());
        }

        static void rune(int rune) {
            argument(rune >= 0 && rune <= 23);
        }

        int add(Stick stick) {
            sticks.add(stick);
            return sticks.size() - 1;
        }

        int make(int places) {
            argument(places >= 1 && places <= 12);
            state(there().size() < 12 && sticks.size() < 40);
            Stick stick = new Stick();
            for (int i = 0; i < places; i++) {
                stick.places.add(new int[] {-1, -1, -1});
                if (i > 0) {
                    stick.joints.add(new Joint(12, false));
                }
            }
            return add(stick);
        }

        int carve(int number, int side, int place, int rune) {
            Stick stick = known(number);
            place(stick, side, place);
            rune(rune);
            state(!stick.gone);
            int before = stick.places.get(place)[side];
            stick.places.get(place)[side] = rune;
            return before;
        }

        int scrape(int number, int side, int place) {
            Stick stick = known(number);
            place(stick, side, place);
            state(!stick.gone && stick.places.get(place)[side] >= 0);
            int before = stick.places.get(place)[side];
            stick.places.get(place)[side] = -1;
            return before;
        }

        int roll(int number, int by) {
            Stick stick = known(number);
            argument(by >= 0 && by <= 2);
            state(!stick.gone);
            for (int i = 0; i < by; i++) {
                stick.up = stick.up == 2 ? 0 : stick.up + 1;
            }
            return stick.up;
        }

        int bend(int number, int force) {
            Stick stick = known(number);
            argument(force >= 1 && force <= 20);
            state(!stick.gone);
            int joint = stick.breaksAt(force);
            if (joint < 0) {
                return -1;
            }
            state(there().size() < 12 && sticks.size() <= 38);
            Stick first = stick.part(0, joint + 1);
            Stick second = stick.part(joint + 1, stick.places.size());
            first.begin = stick.begin;
            first.end = breaks;
            second.begin = breaks;
            second.end = stick.end;
            breaks++;
            stick.gone = true;
            add(first);
            return add(second) - 1;
        }

        int glue(int number, int other, int twist, int base) {
            Stick first = known(number);
            Stick second = known(other);
            argument(twist >= 0 && twist <= 2);
            argument(base >= 1 && base <= 9);
            state(!first.gone && !second.gone && number != other);
            state(first.places.size() + second.places.size() <= 12 && sticks.size() < 40);
            Stick both = first.part(0, first.places.size());
            both.joints.add(new Joint(base + (fits(number, other) && twist == 0 ? 3 : 0), true));
            both.joints.addAll(second.joints);
            for (int[] p : second.places) {
                both.places.add(new int[] {p[twist], p[(1 + twist) % 3], p[(2 + twist) % 3]});
            }
            both.begin = first.begin;
            both.end = second.end;
            first.gone = true;
            second.gone = true;
            return add(both);
        }

        int stick(int number, int what) {
            Stick stick = known(number);
            index(what >= 0 && what <= 6);
            int glued = 0;
            for (Joint joint : stick.joints) {
                glued += joint.glued ? 1 : 0;
            }
            return new int[] {stick.places.size(), stick.up, stick.runes(), glued, stick.begin, stick.end,
                stick.gone ? 1 : 0}[what];
        }

        int rune(int number, int side, int place) {
            Stick stick = known(number);
            place(stick, side, place);
            return stick.places.get(place)[side];
        }

        int strength(int number, int joint) {
            Stick stick = known(number);
            index(joint >= 0 && joint < stick.joints.size());
            return stick.strength(joint);
        }

        int count(int what) {
            index(what >= 0 && what <= 6);
            int[] counts = {there().size(), sticks.size(), 0, breaks, 0, 0, 0};
            for (int one : there()) {
                counts[2] += stick(one, 2);
                counts[4] += stick(one, 3);
                counts[5] += stick(one, 0);
                for (int two : there()) {
                    counts[6] += fits(one, two) ? 1 : 0;
                }
            }
            return counts[what];
        }

        boolean fits(int number, int other) {
            Stick first = known(number);
            Stick second = known(other);
            return !first.gone && !second.gone && number != other && first.end >= 0 && first.end == second.begin;
        }

        int size(int number, int turn) {
            Stick stick = known(number);
            turn(turn);
            return stick.reading(stick.up, turn).size();
        }

        int reads(int number, int turn, int at) {
            Stick stick = known(number);
            turn(turn);
            List<Integer> reading = stick.reading(stick.up, turn);
            argument(at >= 0 && at < reading.size());
            return reading.get(at);
        }

        int has(int number, int rune, int next) {
            Stick stick = known(number);
            rune(rune);
            rune(next);
            int sum = 0;
            for (int both = 0; both < 9; both++) {
                List<Integer> reading = stick.reading(both / 3, both % 3);
                boolean found = false;
                for (int i = 1; i < reading.size(); i++) {
                    found |= reading.get(i - 1) == rune && reading.get(i) == next;
                }
                sum += found ? 1 : 0;
            }
            return sum;
        }

        static int rhymeOf(List<Integer> one, List<Integer> two) {
            int sum = 0;
            for (int back = 1; back <= one.size() && back <= two.size(); back++) {
                int a = one.get(one.size() - back);
                int b = two.get(two.size() - back);
                if (a / 8 != b / 8) {
                    break;
                }
                sum += a == b ? 2 : 1;
            }
            return sum;
        }

        int rhyme(int number, int other, int turn) {
            Stick one = known(number);
            Stick two = known(other);
            turn(turn);
            return rhymeOf(one.reading(one.up, turn), two.reading(two.up, turn));
        }

        int best(int number, int other, int turn) {
            Stick one = known(number);
            Stick two = known(other);
            turn(turn);
            List<Integer> lying = two.reading(two.up, turn);
            int side = 0;
            for (int up = 1; up < 3; up++) {
                if (rhymeOf(one.reading(up, turn), lying) > rhymeOf(one.reading(side, turn), lying)) {
                    side = up;
                }
            }
            return side;
        }

        int pieces(int number, int force) {
            Stick stick = known(number);
            argument(force >= 1 && force <= 20);
            return stick.pieces(force);
        }

        int row(int number, int turn) {
            Stick stick = known(number);
            turn(turn);
            state(!stick.gone);
            List<Integer> row = new ArrayList<>();
            int last = number;
            while (last >= 0) {
                row.add(last);
                int next = -1;
                for (int each : there()) {
                    boolean more = !row.contains(each) && rhyme(last, each, turn) >= 1
                        && (next < 0 || rhyme(last, each, turn) > rhyme(last, next, turn));
                    next = more ? each : next;
                }
                last = next;
            }
            return row.size();
        }

        double mean() {
            return there().isEmpty() ? 0 : count(2) / (double) count(0);
        }

        long digest() {
            List<Integer> all = new ArrayList<>();
            for (int what = 0; what <= 6; what++) {
                all.add(count(what));
            }
            for (int i = 0; i < sticks.size(); i++) {
                for (int what = 0; what <= 6; what++) {
                    all.add(stick(i, what));
                }
                for (int[] place : sticks.get(i).places) {
                    for (int rune : place) {
                        all.add(rune);
                    }
                }
                for (Joint joint : sticks.get(i).joints) {
                    all.add(joint.base);
                }
            }
            long d = 1019;
            for (int x : all) {
                d = d * 31 + x;
            }
            return d;
        }
    }
}
