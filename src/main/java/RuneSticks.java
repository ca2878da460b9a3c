import java.util.Arrays;

/** Runes on three sides of sticks, which are read by turning, break where they are weakest, and are glued again. */
public final class RuneSticks {
    private static final int NONE = -1;
    private static final int SIDES = 3;
    private static final int TURNS = 3;
    private static final int RUNES = 24;
    private static final int FAMILY = 8;
    private static final int MOST_PLACES = 12;
    private static final int MOST_JOINTS = MOST_PLACES - 1;
    private static final int MOST_STICKS = 40;
    private static final int MOST_THERE = 12;
    private static final int MOST_FORCE = 20;
    private static final int WOODEN_BASE = 12;
    private static final int MOST_GLUED_BASE = 9;
    private static final int FIT_EXTRA = 3;
    private static final int FACT_PLACES = 0;
    private static final int FACT_RUNES = 2;
    private static final int FACT_GLUED_JOINTS = 3;
    private static final int FACTS = 7;
    private static final int COUNTS = 7;
    private static final long DIGEST_START = 1019L;
    private static final long DIGEST_FACTOR = 31L;

    private final Stick[] sticks;
    private int made;
    private int breaks;

    public RuneSticks() {
        sticks = new Stick[MOST_STICKS];
        made = 0;
        breaks = 0;
    }

    // ---- making and carving

    public int make(int places) throws IllegalArgumentException, IllegalStateException {
        if (places < 1 || places > MOST_PLACES) {
            throw new IllegalArgumentException("a stick has 1 to 12 places");
        }
        if (howManyThere() >= MOST_THERE) {
            throw new IllegalStateException("12 sticks are there");
        }
        needNumbersLeft(1);
        return put(new Stick(places));
    }

    public int carve(int stick, int side, int place, int rune)
            throws IndexOutOfBoundsException, IllegalArgumentException, IllegalStateException {
        Stick carved = known(stick);
        needPlace(carved, side, place);
        needRune(rune);
        needThere(carved);
        int before = carved.runeAt(side, place);
        carved.putRune(side, place, rune);
        return before;
    }

    public int scrape(int stick, int side, int place) throws IndexOutOfBoundsException, IllegalStateException {
        Stick scraped = known(stick);
        needPlace(scraped, side, place);
        needThere(scraped);
        int before = scraped.runeAt(side, place);
        if (before == NONE) {
            throw new IllegalStateException("there is no rune");
        }
        scraped.putRune(side, place, NONE);
        return before;
    }

    public int roll(int stick, int by)
            throws IndexOutOfBoundsException, IllegalArgumentException, IllegalStateException {
        Stick rolled = known(stick);
        if (by < 0 || by >= SIDES) {
            throw new IllegalArgumentException("a stick is rolled by 0 to 2 sides");
        }
        needThere(rolled);
        rolled.up = (rolled.up + by) % SIDES;
        return rolled.up;
    }

    // ---- breaking and gluing

    public int bend(int stick, int force)
            throws IndexOutOfBoundsException, IllegalArgumentException, IllegalStateException {
        Stick bent = known(stick);
        needForce(force);
        needThere(bent);
        int joint = bent.firstWeakestJoint();
        if (joint == NONE || bent.strengthAt(joint) >= force) {
            return NONE;
        }
        if (howManyThere() >= MOST_THERE) {
            throw new IllegalStateException("12 sticks are there");
        }
        needNumbersLeft(2);
        return breakAt(bent, joint);
    }

    public int glue(int stick, int other, int twist, int base)
            throws IndexOutOfBoundsException, IllegalArgumentException, IllegalStateException {
        Stick first = known(stick);
        Stick second = known(other);
        if (twist < 0 || twist >= SIDES) {
            throw new IllegalArgumentException("a twist is 0 to 2");
        }
        if (base < 1 || base > MOST_GLUED_BASE) {
            throw new IllegalArgumentException("a base of glue is 1 to 9");
        }
        needThere(first);
        needThere(second);
        if (first == second) {
            throw new IllegalStateException("a stick is not glued to itself");
        }
        if (first.places + second.places > MOST_PLACES) {
            throw new IllegalStateException("both have more than 12 places together");
        }
        needNumbersLeft(1);
        return joinBoth(first, second, twist, base);
    }

    // ---- what is there

    public int stick(int stick, int what) throws IndexOutOfBoundsException {
        Stick asked = known(stick);
        if (what < 0 || what >= FACTS) {
            throw new IndexOutOfBoundsException("of a stick is asked 0 to 6");
        }
        return asked.factAt(what);
    }

    public int rune(int stick, int side, int place) throws IndexOutOfBoundsException {
        Stick asked = known(stick);
        needPlace(asked, side, place);
        return asked.runeAt(side, place);
    }

    public int strength(int stick, int joint) throws IndexOutOfBoundsException {
        Stick asked = known(stick);
        if (!asked.hasJoint(joint)) {
            throw new IndexOutOfBoundsException("there is no such joint");
        }
        return asked.strengthAt(joint);
    }

    public int count(int what) throws IndexOutOfBoundsException {
        if (what < 0 || what >= COUNTS) {
            throw new IndexOutOfBoundsException("counted is 0 to 6");
        }
        return total(what);
    }

    public boolean fits(int stick, int other) throws IndexOutOfBoundsException {
        Stick first = known(stick);
        Stick second = known(other);
        return !first.gone && !second.gone && first.fitsAheadOf(second);
    }

    // ---- reading (sticks that are gone read as they did)

    public int size(int stick, int turn) throws IndexOutOfBoundsException, IllegalArgumentException {
        Stick read = known(stick);
        needTurn(turn);
        return read.readingLength(read.up, turn);
    }

    public int reads(int stick, int turn, int index) throws IndexOutOfBoundsException, IllegalArgumentException {
        Stick read = known(stick);
        needTurn(turn);
        int rune = read.runeOfReadingOrNone(turn, index);
        if (rune == NONE) {
            throw new IllegalArgumentException("there is no such rune in the reading");
        }
        return rune;
    }

    public int has(int stick, int rune, int next) throws IndexOutOfBoundsException, IllegalArgumentException {
        Stick read = known(stick);
        needRune(rune);
        needRune(next);
        int readings = 0;
        for (int up = 0; up < SIDES; up++) {
            for (int turn = 0; turn < TURNS; turn++) {
                if (read.readsPair(up, turn, rune, next)) {
                    readings++;
                }
            }
        }
        return readings;
    }

    public int rhyme(int stick, int other, int turn) throws IndexOutOfBoundsException, IllegalArgumentException {
        Stick one = known(stick);
        Stick two = known(other);
        needTurn(turn);
        return rhymeOf(one, one.up, two, turn);
    }

    // ---- what would be

    public int best(int stick, int other, int turn) throws IndexOutOfBoundsException, IllegalArgumentException {
        Stick rolled = known(stick);
        Stick lying = known(other);
        needTurn(turn);
        int bestSide = 0;
        int bestRhyme = NONE;
        for (int up = 0; up < SIDES; up++) {
            int rhyme = rhymeOf(rolled, up, lying, turn);
            if (rhyme > bestRhyme) {
                bestSide = up;
                bestRhyme = rhyme;
            }
        }
        return bestSide;
    }

    public int pieces(int stick, int force) throws IndexOutOfBoundsException, IllegalArgumentException {
        Stick bent = known(stick);
        needForce(force);
        // A break changes the strength of no other joint, so each joint that is too weak gives way in the end.
        return bent.jointsWeakerThan(force) + 1;
    }

    public int row(int stick, int turn)
            throws IndexOutOfBoundsException, IllegalArgumentException, IllegalStateException {
        Stick first = known(stick);
        needTurn(turn);
        needThere(first);
        // Two sticks rhyme by 1 or more if the last runes that they read are of one family, and only then;
        // so whichever comes next, the row goes on till all that rhyme with the first one are in it.
        int length = 1;
        for (int number = 0; number < made; number++) {
            Stick each = thereOrNull(number);
            if (each != null && each != first && rhymeOf(first, first.up, each, turn) > 0) {
                length++;
            }
        }
        return length;
    }

    public double mean() {
        int there = howManyThere();
        return there == 0 ? 0.0 : (double) sumThere(FACT_RUNES) / (double) there;
    }

    public long digest() {
        long digest = DIGEST_START;
        for (int what = 0; what < COUNTS; what++) {
            digest = digest * DIGEST_FACTOR + total(what);
        }
        for (int number = 0; number < made; number++) {
            Stick each = stickOrNull(number);
            if (each != null) {
                digest = each.addedTo(digest);
            }
        }
        return digest;
    }

    // ---- what the calls need

    private Stick known(int number) {
        Stick found = stickOrNull(number);
        if (found == null) {
            throw new IndexOutOfBoundsException("there is no such stick");
        }
        return found;
    }

    private void needNumbersLeft(int many) {
        if (made > MOST_STICKS - many) {
            throw new IllegalStateException("there were too many sticks");
        }
    }

    private static void needThere(Stick stick) {
        if (stick.gone) {
            throw new IllegalStateException("the stick is gone");
        }
    }

    private static void needPlace(Stick stick, int side, int place) {
        if (!stick.hasPlace(side, place)) {
            throw new IndexOutOfBoundsException("there is no such side or place");
        }
    }

    private static void needRune(int rune) {
        if (rune < 0 || rune >= RUNES) {
            throw new IllegalArgumentException("a rune is 0 to 23");
        }
    }

    private static void needTurn(int turn) {
        if (turn < 0 || turn >= TURNS) {
            throw new IllegalArgumentException("a turn is 0 to 2");
        }
    }

    private static void needForce(int force) {
        if (force < 1 || force > MOST_FORCE) {
            throw new IllegalArgumentException("a force is 1 to 20");
        }
    }

    // ---- the sticks by their numbers

    private Stick stickOrNull(int number) {
        return number < 0 || number >= sticks.length ? null : sticks[number];
    }

    private Stick thereOrNull(int number) {
        Stick found = stickOrNull(number);
        return found == null || found.gone ? null : found;
    }

    // The calls look first whether there are numbers left; the test here keeps the index safe in any case.
    private int put(Stick added) {
        int number = made;
        if (number >= 0 && number < sticks.length) {
            sticks[number] = added;
            made = number + 1;
        }
        return number;
    }

    private int breakAt(Stick bent, int joint) {
        int ahead = joint + 1;
        Stick first = new Stick(ahead);
        first.takePlaces(bent, 0, ahead, 0, 0);
        first.up = bent.up;
        first.beginBreak = bent.beginBreak;
        first.endBreak = breaks;
        Stick second = new Stick(bent.places - ahead);
        second.takePlaces(bent, ahead, bent.places - ahead, 0, 0);
        second.up = bent.up;
        second.beginBreak = breaks;
        second.endBreak = bent.endBreak;
        breaks++;
        bent.gone = true;
        int number = put(first);
        put(second);
        return number;
    }

    private int joinBoth(Stick first, Stick second, int twist, int base) {
        int extra = twist == 0 && first.fitsAheadOf(second) ? FIT_EXTRA : 0;
        Stick joined = new Stick(first.places + second.places);
        joined.takePlaces(first, 0, first.places, 0, 0);
        joined.takePlaces(second, 0, second.places, first.places, twist);
        joined.putJoint(first.places - 1, base + extra, true);
        joined.up = first.up;
        joined.beginBreak = first.beginBreak;
        joined.endBreak = second.endBreak;
        first.gone = true;
        second.gone = true;
        return put(joined);
    }

    // ---- what is counted of them

    private int total(int what) {
        switch (what) {
            case 0:
                return howManyThere();
            case 1:
                return made;
            case 2:
                return sumThere(FACT_RUNES);
            case 3:
                return breaks;
            case 4:
                return sumThere(FACT_GLUED_JOINTS);
            case 5:
                return sumThere(FACT_PLACES);
            default:
                return fittingPairs();
        }
    }

    private int howManyThere() {
        int there = 0;
        for (int number = 0; number < made; number++) {
            if (thereOrNull(number) != null) {
                there++;
            }
        }
        return there;
    }

    private int sumThere(int fact) {
        int sum = 0;
        for (int number = 0; number < made; number++) {
            Stick each = thereOrNull(number);
            if (each != null) {
                sum += each.factAt(fact);
            }
        }
        return sum;
    }

    private int fittingPairs() {
        int pairs = 0;
        for (int number = 0; number < made; number++) {
            Stick first = thereOrNull(number);
            if (first != null) {
                pairs += fittingBehind(first);
            }
        }
        return pairs;
    }

    private int fittingBehind(Stick first) {
        int fitting = 0;
        for (int number = 0; number < made; number++) {
            Stick second = thereOrNull(number);
            if (second != null && first.fitsAheadOf(second)) {
                fitting++;
            }
        }
        return fitting;
    }

    // ---- how they rhyme

    private static int rhymeOf(Stick one, int oneUp, Stick two, int turn) {
        int sum = 0;
        int placeOfOne = one.placeReadUpTo(oneUp, turn, one.places - 1);
        int placeOfTwo = two.placeReadUpTo(two.up, turn, two.places - 1);
        for (int pair = 0; pair < MOST_PLACES && placeOfOne != NONE && placeOfTwo != NONE; pair++) {
            int worth = pairWorth(one.runeRead(oneUp, turn, placeOfOne), two.runeRead(two.up, turn, placeOfTwo));
            if (worth == 0) {
                return sum;
            }
            sum += worth;
            placeOfOne = one.placeReadUpTo(oneUp, turn, placeOfOne - 1);
            placeOfTwo = two.placeReadUpTo(two.up, turn, placeOfTwo - 1);
        }
        return sum;
    }

    private static int pairWorth(int rune, int other) {
        if (rune == other) {
            return 2;
        }
        return rune / FAMILY == other / FAMILY ? 1 : 0;
    }

    /** One stick. Its rows have room for the most places, so that no length depends on a call. */
    private static final class Stick {
        final int places;
        int up;
        int beginBreak;
        int endBreak;
        boolean gone;
        private final int[] runes;
        private final int[] bases;
        // A glued joint can have the base of a wooden one (9 and 3 more), so the base alone does not tell.
        private final boolean[] glued;

        Stick(int places) {
            this.places = places;
            up = 0;
            beginBreak = NONE;
            endBreak = NONE;
            gone = false;
            runes = new int[MOST_PLACES * SIDES];
            bases = new int[MOST_JOINTS];
            glued = new boolean[MOST_JOINTS];
            Arrays.fill(runes, NONE);
            Arrays.fill(bases, WOODEN_BASE);
        }

        boolean hasPlace(int side, int place) {
            return side >= 0 && side < SIDES && place >= 0 && place < places && place < MOST_PLACES;
        }

        boolean hasJoint(int joint) {
            return joint >= 0 && joint < places - 1 && joint < MOST_JOINTS;
        }

        int runeAt(int side, int place) {
            return hasPlace(side, place) ? runes[place * SIDES + side] : NONE;
        }

        void putRune(int side, int place, int rune) {
            if (hasPlace(side, place)) {
                runes[place * SIDES + side] = rune;
            }
        }

        int baseAt(int joint) {
            return hasJoint(joint) ? bases[joint] : 0;
        }

        boolean gluedAt(int joint) {
            return hasJoint(joint) && glued[joint];
        }

        void putJoint(int joint, int base, boolean isGlued) {
            if (hasJoint(joint)) {
                bases[joint] = base;
                glued[joint] = isGlued;
            }
        }

        void takePlaces(Stick source, int from, int many, int to, int twist) {
            for (int i = 0; i < many; i++) {
                for (int side = 0; side < SIDES; side++) {
                    putRune(side, to + i, source.runeAt((side + twist) % SIDES, from + i));
                }
            }
            for (int i = 0; i < many - 1; i++) {
                putJoint(to + i, source.baseAt(from + i), source.gluedAt(from + i));
            }
        }

        boolean fitsAheadOf(Stick next) {
            return this != next && endBreak != NONE && endBreak == next.beginBreak;
        }

        int factAt(int what) {
            switch (what) {
                case FACT_PLACES:
                    return places;
                case 1:
                    return up;
                case FACT_RUNES:
                    return runesInAll();
                case FACT_GLUED_JOINTS:
                    return gluedJoints();
                case 4:
                    return beginBreak;
                case 5:
                    return endBreak;
                default:
                    return gone ? 1 : 0;
            }
        }

        int runesInAll() {
            int sum = 0;
            for (int place = 0; place < places; place++) {
                sum += runesAtPlace(place);
            }
            return sum;
        }

        int runesAtPlace(int place) {
            int sum = 0;
            for (int side = 0; side < SIDES; side++) {
                if (runeAt(side, place) != NONE) {
                    sum++;
                }
            }
            return sum;
        }

        int gluedJoints() {
            int sum = 0;
            for (int joint = 0; joint < places - 1; joint++) {
                if (gluedAt(joint)) {
                    sum++;
                }
            }
            return sum;
        }

        int strengthAt(int joint) {
            return Math.max(0, baseAt(joint) - runesAtPlace(joint) - runesAtPlace(joint + 1));
        }

        int firstWeakestJoint() {
            int weakest = NONE;
            for (int joint = 0; joint < places - 1; joint++) {
                if (weakest == NONE || strengthAt(joint) < strengthAt(weakest)) {
                    weakest = joint;
                }
            }
            return weakest;
        }

        int jointsWeakerThan(int force) {
            int weaker = 0;
            for (int joint = 0; joint < places - 1; joint++) {
                if (strengthAt(joint) < force) {
                    weaker++;
                }
            }
            return weaker;
        }

        int runeRead(int sideUp, int turn, int place) {
            return hasPlace(0, place) ? runeAt((sideUp + place * turn) % SIDES, place) : NONE;
        }

        int placeReadUpTo(int sideUp, int turn, int last) {
            for (int place = last; place >= 0; place--) {
                if (runeRead(sideUp, turn, place) != NONE) {
                    return place;
                }
            }
            return NONE;
        }

        int readingLength(int sideUp, int turn) {
            int length = 0;
            for (int place = 0; place < places; place++) {
                if (runeRead(sideUp, turn, place) != NONE) {
                    length++;
                }
            }
            return length;
        }

        int runeOfReadingOrNone(int turn, int index) {
            int passed = 0;
            for (int place = 0; place < places; place++) {
                int rune = runeRead(up, turn, place);
                if (rune != NONE) {
                    if (passed == index) {
                        return rune;
                    }
                    passed++;
                }
            }
            return NONE;
        }

        boolean readsPair(int sideUp, int turn, int rune, int next) {
            int before = NONE;
            for (int place = 0; place < places; place++) {
                int now = runeRead(sideUp, turn, place);
                if (now != NONE) {
                    if (before == rune && now == next) {
                        return true;
                    }
                    before = now;
                }
            }
            return false;
        }

        long addedTo(long digest) {
            long sum = digest;
            for (int what = 0; what < FACTS; what++) {
                sum = sum * DIGEST_FACTOR + factAt(what);
            }
            for (int place = 0; place < places; place++) {
                for (int side = 0; side < SIDES; side++) {
                    sum = sum * DIGEST_FACTOR + runeAt(side, place);
                }
            }
            for (int joint = 0; joint < places - 1; joint++) {
                sum = sum * DIGEST_FACTOR + baseAt(joint);
            }
            return sum;
        }
    }
}
