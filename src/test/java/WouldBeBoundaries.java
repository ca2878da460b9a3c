import java.math.BigInteger;
import java.util.ArrayList;
import java.util.Arrays;
import java.util.List;

/** Promises 17 to 21: best, pieces, row, mean, digest. */
final class WouldBeBoundaries extends Checks {
    // ---- Promise 17: best

    /** Stick 0 has one rune on side 0; stick 1 has these runes on its sides, -1 for none. */
    private static RuneSticks bestOf(int rune, int... sides) {
        RuneSticks x = carved(rune);
        x.make(1);
        for (int side = 0; side < 3; side++) {
            if (sides[side] != -1) {
                x.carve(1, side, 0, sides[side]);
            }
        }
        return x;
    }

    @Sentence("Looks for the side of a stick that had best be up, so that it rhymes the most with another one")
    @Broken(in = "public int best(", from = "up < SIDES", to = "up < SIDES - 1")
    @Broken(in = "public int best(", from = "int up = 0", to = "int up = 1")
    @Broken(in = "public int best(", from = "int bestRhyme = NONE", to = "int bestRhyme = 1")
    static void bestFindsEachSide() {
        due(0, bestOf(9, 9, 10, 11).best(1, 0, 0));
        due(1, bestOf(9, 10, 9, 11).best(1, 0, 0));
        due(2, bestOf(9, 10, 11, 9).best(1, 0, 0));
        due(0, bestOf(9, 10, 1, 20).best(1, 0, 0));
        due(1, bestOf(9, 1, 10, 20).best(1, 0, 0));
        due(2, bestOf(9, 1, -1, 10).best(1, 0, 0));
    }

    @Sentence("Returns this side, of several the least")
    @Broken(in = "public int best(", from = "rhyme > bestRhyme", to = "rhyme >= bestRhyme")
    static void bestOfSeveralIsTheLeast() {
        due(0, bestOf(9, 9, 9, 9).best(1, 0, 0));
        due(1, bestOf(9, 10, 9, 9).best(1, 0, 0));
        due(0, bestOf(9, 10, 1, 11).best(1, 0, 0));
    }

    @Sentence("Returns this side, of several the least")
    @Broken(in = "public int best(", from = "int bestSide = 0;\n        int bestRhyme = NONE;",
        to = "int bestSide = rolled.up; int bestRhyme = 0;")
    static void bestIs0IfNoneRhymes() {
        RuneSticks x = bestOf(9, 1, -1, 20);
        x.roll(1, 2);
        due(0, x.best(1, 0, 0));
        due(0, x.best(0, 0, 0));
        RuneSticks y = of(12, 12);
        y.roll(0, 1);
        due(0, y.best(0, 1, 2));
        due(0, y.best(0, 0, 2));
    }

    @Sentence("as that lies, with a turn")
    @Broken(in = "private static int rhymeOf(", from = "two.placeReadUpTo(two.up,", to = "two.placeReadUpTo(0,")
    @Broken(in = "private static int rhymeOf(", from = "two.runeRead(two.up,", to = "two.runeRead(0,")
    static void bestTakesTheOtherOneAsItLies() {
        RuneSticks x = bestOf(9, 1, 9, 17);
        due(1, x.best(1, 0, 0));
        x.scrape(0, 0, 0);
        x.carve(0, 2, 0, 17);
        x.roll(0, 2);
        due(2, x.best(1, 0, 0));
    }

    @Sentence("as that lies, with a turn")
    @Broken(in = "public int best(", from = TURN, to = "needTurn(turn - 1)")
    @Broken(in = "public int best(", from = TURN, to = "needTurn(turn + 1)")
    @Broken(in = "public int best(", from = "rhymeOf(rolled, up, lying, turn)", to = "rhymeOf(rolled, up, lying, 0)")
    static void bestTakesTheTurns0To2() {
        RuneSticks x = of(2, 2);
        for (int side = 0; side < 3; side++) {
            x.carve(0, side, 1, 9);
        }
        x.carve(1, 1, 1, 9);
        due(1, x.best(1, 0, 0));
        due(0, x.best(1, 0, 1));
        due(2, x.best(1, 0, 2));
    }

    @Sentence("if both are the same stick, the other one lies as it does now")
    @Broken(in = "public int best(", from = "int rhyme = rhymeOf(rolled, up, lying, turn);",
        to = "int now = lying.up; if (rolled == lying) { lying.up = up; }"
            + " int rhyme = rhymeOf(rolled, up, lying, turn); lying.up = now;")
    static void bestOfAStickWithItselfAsItLies() {
        RuneSticks x = of(2);
        x.carve(0, 0, 0, 1);
        x.carve(0, 0, 1, 17);
        x.carve(0, 1, 1, 18);
        x.roll(0, 1);
        due(1, x.best(0, 0, 0));
        x.roll(0, 1);
        due(0, x.best(0, 0, 0));
    }

    @Sentence("(nothing is changed; if both are the same stick, the other one lies as it does now)")
    @Broken(in = "public int best(", from = "return bestSide;", to = "rolled.up = bestSide; return bestSide;")
    static void bestChangesNothing() {
        RuneSticks x = bestOf(9, 1, 9, 2);
        long before = x.digest();
        due(1, x.best(1, 0, 0));
        due(before, x.digest());
        due(0, x.stick(1, 1));
        x.roll(1, 1);
        before = x.digest();
        due(1, x.best(1, 1, 0));
        due(before, x.digest());
    }

    @Sentence("sticks that are gone read as they did")
    @Broken(in = "public int best(", from = "return bestSide;", to = "return rolled.gone ? 0 : bestSide;")
    @Broken(in = "public int best(", from = "return bestSide;", to = "return lying.gone ? 0 : bestSide;")
    static void bestOfSticksThatAreGoneIsAsItWas() {
        RuneSticks x = bestOf(9, 1, 9, 2);
        x.glue(1, 0, 1, 5);
        x.make(1);
        x.carve(3, 2, 0, 9);
        due(1, x.best(1, 0, 0));
        due(2, x.best(3, 0, 0));
        x.carve(3, 0, 0, 10);
        due(1, x.best(1, 3, 0));
    }

    @Sentence("Throws `IndexOutOfBoundsException` if there is no such stick")
    @Broken(in = "public int best(", from = KNOWN, to = KNOWS_NEXT)
    @Broken(in = "public int best(", from = KNOWN, to = KNOWS_MORE)
    @Broken(in = "public int best(", from = KNOWN, to = KNOWS_LESS)
    static void bestRefusesAnUnknownFirstStick() {
        RuneSticks x = of(1, 1);
        unknownRefused(x, number -> x.best(number, 1, 0));
    }

    @Sentence("Throws `IndexOutOfBoundsException` if there is no such stick")
    @Broken(in = "public int best(", from = KNOWN_OTHER, to = KNOWS_NEXT_OTHER)
    @Broken(in = "public int best(", from = KNOWN_OTHER, to = KNOWS_MORE_OTHER)
    @Broken(in = "public int best(", from = KNOWN_OTHER, to = KNOWS_LESS_OTHER)
    static void bestRefusesAnUnknownSecondStick() {
        RuneSticks x = of(1, 1);
        unknownRefused(x, number -> x.best(0, number, 0));
    }

    @Sentence("Throws `IllegalArgumentException` if turn is not 0 to 2")
    @Broken(in = "public int best(", from = TURN, to = "needTurn(Math.max(turn, 0))")
    @Broken(in = "public int best(", from = TURN, to = "needTurn(turn < -1 ? 0 : turn)")
    static void bestRefusesATurnBelow0() {
        RuneSticks x = of(1, 1);
        refusedFor(ARGUMENT, turn -> x.best(0, 1, turn), -1, -2, -3, MIN);
    }

    @Sentence("Throws `IllegalArgumentException` if turn is not 0 to 2")
    @Broken(in = "public int best(", from = TURN, to = "needTurn(Math.min(turn, 2))")
    @Broken(in = "public int best(", from = TURN, to = "needTurn(turn > 3 ? 0 : turn)")
    static void bestRefusesATurnAbove2() {
        RuneSticks x = of(1, 1);
        refusedFor(ARGUMENT, turn -> x.best(0, 1, turn), 3, 4, MAX);
    }

    // ---- Promise 18: pieces

    @Sentence("Returns how many sticks would come of it")
    @Broken(in = "public int pieces(", from = "jointsWeakerThan(force) + 1", to = "jointsWeakerThan(force)")
    @Broken(in = "int jointsWeakerThan(", from = "< force", to = "<= force")
    static void piecesIs1IfItHolds() {
        RuneSticks x = of(12, 1);
        due(1, x.pieces(0, 12));
        due(1, x.pieces(1, 20));
        x.carve(0, 0, 11, 0);
        due(1, x.pieces(0, 11));
    }

    @Sentence("till none breaks (however many there can be; nothing is changed)")
    @Broken(in = "int jointsWeakerThan(", from = "< force", to = "< force - 1")
    @Broken(in = "int jointsWeakerThan(", from = "joint < places - 1", to = "joint < places - 2")
    @Broken(in = "int jointsWeakerThan(", from = "int joint = 0", to = "int joint = 1")
    static void piecesBreaksTillNoneBreaks() {
        RuneSticks x = of(4);
        due(4, x.pieces(0, 13));
        carve(x, 0, 0, 1, -1, -1, 1);
        due(1, x.pieces(0, 11));
        due(3, x.pieces(0, 12));
        due(4, x.pieces(0, 13));
        x.carve(0, 1, 0, 1);
        due(2, x.pieces(0, 11));
        x.carve(0, 1, 3, 1);
        due(3, x.pieces(0, 11));
    }

    @Sentence("till none breaks (however many there can be; nothing is changed)")
    @Broken(in = "public int pieces(", from = "bent.jointsWeakerThan(force) + 1",
        to = "Math.min(bent.jointsWeakerThan(force) + 1, MOST_THERE - howManyThere() + 1)")
    static void piecesGoesOnPast12ThatAreThere() {
        RuneSticks x = twelveThere(12);
        due(12, x.pieces(0, 20));
        due(12, x.pieces(11, 13));
        due(1, x.pieces(11, 12));
    }

    @Sentence("till none breaks (however many there can be; nothing is changed)")
    @Broken(in = "public int pieces(", from = "bent.jointsWeakerThan(force) + 1",
        to = "Math.min(bent.jointsWeakerThan(force) + 1, MOST_STICKS - made + 1)")
    static void piecesGoesOnPast40InAll() {
        RuneSticks x = inAll(40);
        due(2, x.pieces(39, 20));
        RuneSticks y = inAll(39);
        y.make(12);
        due(12, y.pieces(39, 20));
        due(1, y.pieces(39, 12));
    }

    @Sentence("till none breaks (however many there can be; nothing is changed)")
    @Broken(in = "public int pieces(", from = "return bent",
        to = "bent.gone = bent.jointsWeakerThan(force) > 0; return bent")
    @Broken(in = "public int pieces(", from = "return bent", to = "breaks += bent.jointsWeakerThan(force); return bent")
    static void piecesChangesNothing() {
        RuneSticks x = of(12);
        long before = x.digest();
        due(12, x.pieces(0, 20));
        due(before, x.digest());
        due(1, x.pieces(0, 1));
        due(before, x.digest());
    }

    @Sentence("Throws `IllegalArgumentException` if force is not 1 to 20")
    @Broken(in = "public int pieces(", from = FORCE, to = "needForce(force - 1)")
    @Broken(in = "public int pieces(", from = FORCE, to = "needForce(force + 1)")
    @Broken(in = "int strengthAt(", from = "Math.max(0, ", to = "Math.max(1, ")
    static void piecesTakesTheForces1And20() {
        RuneSticks x = of(1, 1, 1);
        for (int stick = 0; stick < 3; stick++) {
            fill(x, stick, 0);
        }
        x.glue(0, 1, 0, 6);
        x.glue(3, 2, 0, 7);
        due(2, x.pieces(4, 1));
        due(3, x.pieces(4, 2));
        due(3, x.pieces(4, 20));
    }

    @Sentence("Returns how many sticks would come of it")
    @Broken(in = "public int pieces(", from = "return bent.jointsWeakerThan(force) + 1",
        to = "return bent.gone ? 0 : bent.jointsWeakerThan(force) + 1")
    static void piecesOfAStickThatIsGoneIsAsItWas() {
        RuneSticks x = of(3);
        x.bend(0, 20);
        x.carve(1, 0, 0, 1);
        due(3, x.pieces(0, 13));
        due(1, x.pieces(0, 12));
        due(1, x.pieces(1, 20));
        due(2, x.pieces(2, 20));
    }

    @Sentence("Throws `IndexOutOfBoundsException` if there is no such stick")
    @Broken(in = "public int pieces(", from = KNOWN, to = KNOWS_NEXT)
    @Broken(in = "public int pieces(", from = KNOWN, to = KNOWS_MORE)
    @Broken(in = "public int pieces(", from = KNOWN, to = KNOWS_LESS)
    static void piecesRefusesAnUnknownStick() {
        RuneSticks x = of(1, 1);
        unknownRefused(x, number -> x.pieces(number, 1));
    }

    @Sentence("Throws `IllegalArgumentException` if force is not 1 to 20")
    @Broken(in = "public int pieces(", from = FORCE, to = "needForce(Math.max(force, 1))")
    @Broken(in = "public int pieces(", from = FORCE, to = "needForce(force < 0 ? 1 : force)")
    static void piecesRefusesForceBelow1() {
        RuneSticks x = of(2);
        refusedFor(ARGUMENT, force -> x.pieces(0, force), 0, -1, MIN);
    }

    @Sentence("Throws `IllegalArgumentException` if force is not 1 to 20")
    @Broken(in = "public int pieces(", from = FORCE, to = "needForce(Math.min(force, 20))")
    @Broken(in = "public int pieces(", from = FORCE, to = "needForce(force > 21 ? 20 : force)")
    static void piecesRefusesForceAbove20() {
        RuneSticks x = of(2);
        refusedFor(ARGUMENT, force -> x.pieces(0, force), 21, 22, MAX);
    }

    // ---- Promise 19: row

    @Sentence("till none of them rhymes with it by 1 or more")
    @Broken(in = "public int row(", from = "> 0", to = "> 1")
    static void rowGoesOnWithARhymeOf1() {
        RuneSticks x = carved(0);
        add(x, 7);
        due(2, x.row(0, 0));
        due(2, x.row(1, 0));
    }

    @Sentence("till none of them rhymes with it by 1 or more")
    @Broken(in = "public int row(", from = "> 0", to = ">= 0")
    static void rowEndsWhereNoneRhymes() {
        RuneSticks x = carved(7);
        add(x, 7, 8);
        add(x, 16);
        x.make(1);
        for (int first = 0; first < 4; first++) {
            due(1, x.row(first, 0));
        }
        add(x, 20, 0);
        due(2, x.row(0, 0));
        due(2, x.row(4, 0));
        due(1, x.row(1, 0));
    }

    @Sentence("Returns how many sticks the row has.")
    @Broken(in = "public int row(", from = "number < made", to = "number < made - 1")
    @Broken(in = "public int row(", from = "int number = 0", to = "int number = 1")
    @Broken(in = "public int row(", from = "return length;", to = "return Math.min(length, 11);")
    static void rowHasUpTo12Sticks() {
        RuneSticks x = new RuneSticks();
        for (int i = 0; i < 12; i++) {
            add(x, 8 + i % 8);
        }
        for (int first = 0; first < 12; first++) {
            due(12, x.row(first, 0));
        }
    }

    @Sentence("it begins with a stick")
    @Broken(in = "public int row(", from = "int length = 1;", to = "int length = 0;")
    static void rowOfOneStickAlone() {
        RuneSticks x = of(1);
        due(1, x.row(0, 0));
        x.carve(0, 0, 0, 5);
        due(1, x.row(0, 0));
    }

    @Sentence("of those that are there and not in the row yet")
    @Broken(in = "public int row(", from = "each != first && ", to = "")
    static void rowHasNoStickTwice() {
        RuneSticks x = carved(5);
        due(1, x.row(0, 0));
        add(x, 5);
        due(2, x.row(0, 0));
        due(2, x.row(1, 0));
    }

    @Sentence("of those that are there and not in the row yet")
    @Broken(in = "public int row(", from = "thereOrNull(number)", to = "stickOrNull(number)")
    static void rowHasNoneThatIsGone() {
        RuneSticks x = carved(5);
        add(x, 5, 20);
        add(x, 5);
        due(2, x.row(0, 0));
        x.glue(2, 1, 0, 5);
        // 3 reads 5, 5, 20 now.
        due(1, x.row(0, 0));
        due(1, x.row(3, 0));
    }

    @Sentence("behind each one comes the one that rhymes the most with it with the turn")
    @Broken(in = "public int row(", from = "rhymeOf(first, first.up, each, turn)",
        to = "rhymeOf(first, first.up, each, 0)")
    @Broken(in = "public int row(", from = "rhymeOf(first, first.up, each, turn)", to = "rhymeOf(first, 0, each, turn)")
    @Broken(in = "public int row(", from = TURN, to = "needTurn(turn - 1)")
    @Broken(in = "public int row(", from = TURN, to = "needTurn(turn + 1)")
    static void rowTakesTheTurns0To2AndTheSidesUp() {
        RuneSticks x = of(2, 2, 2);
        x.carve(0, 0, 1, 1);
        x.carve(0, 1, 1, 9);
        x.carve(0, 2, 1, 17);
        x.carve(1, 0, 1, 1);
        x.carve(1, 1, 1, 17);
        x.carve(1, 2, 1, 17);
        x.carve(2, 0, 1, 9);
        x.carve(2, 1, 1, 1);
        x.carve(2, 2, 1, 17);
        due(2, x.row(0, 0));
        due(1, x.row(0, 1));
        due(3, x.row(0, 2));
        x.roll(0, 1);
        due(2, x.row(0, 0));
        due(2, x.row(0, 1));
        due(1, x.row(0, 2));
    }

    @Sentence("Throws `IndexOutOfBoundsException` if there is no such stick")
    @Broken(in = "public int row(", from = KNOWN, to = KNOWS_NEXT)
    @Broken(in = "public int row(", from = KNOWN, to = KNOWS_MORE)
    @Broken(in = "public int row(", from = KNOWN, to = KNOWS_LESS)
    static void rowRefusesAnUnknownStick() {
        RuneSticks x = of(1, 1);
        unknownRefused(x, number -> x.row(number, 0));
    }

    @Sentence("Throws `IllegalArgumentException` if turn is not 0 to 2")
    @Broken(in = "public int row(", from = TURN, to = "needTurn(Math.max(turn, 0))")
    @Broken(in = "public int row(", from = TURN, to = "needTurn(turn < -1 ? 0 : turn)")
    static void rowRefusesATurnBelow0() {
        RuneSticks x = of(1, 1);
        refusedFor(ARGUMENT, turn -> x.row(0, turn), -1, -2, -3, MIN);
    }

    @Sentence("Throws `IllegalArgumentException` if turn is not 0 to 2")
    @Broken(in = "public int row(", from = TURN, to = "needTurn(Math.min(turn, 2))")
    @Broken(in = "public int row(", from = TURN, to = "needTurn(turn > 3 ? 0 : turn)")
    static void rowRefusesATurnAbove2() {
        RuneSticks x = of(1, 1);
        refusedFor(ARGUMENT, turn -> x.row(0, turn), 3, 4, MAX);
    }

    @Sentence("Throws `IllegalStateException` if the stick is gone")
    @Broken(in = "public int row(", from = "needThere(first);", to = "")
    static void rowRefusesAStickThatIsGone() {
        RuneSticks x = someGone();
        refusedFor(STATE, number -> x.row(number, 0), GONE);
        due(4, x.row(1, 0));
        due(4, x.row(5, 0));
    }

    // ---- Promise 20: mean

    @Sentence("0 if none is")
    @Broken(in = "public double mean()", from = "there == 0 ? 0.0 : ", to = "")
    static void meanIs0IfNoneIsThere() {
        due(0.0, new RuneSticks().mean());
    }

    @Sentence("Returns the mean number of runes on sticks that are there")
    @Broken(in = "public double mean()", from = "(double) sumThere(FACT_RUNES) / (double) there",
        to = "(double) (sumThere(FACT_RUNES) / there)")
    @Broken(in = "public double mean()", from = "(double) sumThere(FACT_RUNES) / (double) there",
        to = "(double) ((float) sumThere(FACT_RUNES) / (float) there)")
    static void meanNeedNotBeWhole() {
        RuneSticks x = carved(1);
        due(1.0, x.mean());
        x.make(1);
        due(0.5, x.mean());
        x.make(12);
        due(1.0 / 3.0, x.mean());
        x.scrape(0, 0, 0);
        due(0.0, x.mean());
    }

    @Sentence("Returns the mean number of runes on sticks that are there")
    @Broken(in = "public double mean()", from = "(double) there", to = "(double) made")
    @Broken(in = "private int sumThere(", from = "thereOrNull(number)", to = "stickOrNull(number)")
    static void meanIsOfThoseThatAreThere() {
        RuneSticks x = someGone();
        due(24.0 / 4.0, x.mean());
        x.scrape(6, 0, 0);
        due(23.0 / 4.0, x.mean());
    }

    @Sentence("Returns the mean number of runes on sticks that are there")
    @Broken(in = "public double mean()", from = "(double) sumThere(FACT_RUNES)",
        to = "(double) Math.min(431, sumThere(FACT_RUNES))")
    static void meanIsUpTo36() {
        RuneSticks x = twelveThere(12);
        for (int stick = 0; stick < 12; stick++) {
            fill(x, stick, 0);
        }
        due(36.0, x.mean());
    }

    // ---- Promise 21: digest

    private static long digestOf(List<Integer> numbers) {
        BigInteger d = BigInteger.valueOf(1019);
        for (int each : numbers) {
            d = d.multiply(BigInteger.valueOf(31)).add(BigInteger.valueOf(each));
        }
        return d.longValue();
    }

    /** What the digest is made of, as the other calls tell it; "bases" are those of all joints in their order. */
    private static long digestDue(RuneSticks x, int... bases) {
        List<Integer> all = new ArrayList<>();
        for (int what = 0; what <= 6; what++) {
            all.add(x.count(what));
        }
        int told = 0;
        int sticks = x.count(1);
        for (int stick = 0; stick < sticks; stick++) {
            int places = x.stick(stick, 0);
            all.add(places);
            for (int what = 1; what <= 6; what++) {
                all.add(x.stick(stick, what));
            }
            for (int place = 0; place < places; place++) {
                for (int side = 0; side < 3; side++) {
                    all.add(x.rune(stick, side, place));
                }
            }
            for (int joint = 0; joint < places - 1; joint++) {
                all.add(bases[told++]);
            }
        }
        due(bases.length, told);
        return digestOf(all);
    }

    @Sentence("A number d starts with 1019")
    @Broken(in = "private static final long DIGEST_START", from = "1019L", to = "1018L")
    @Broken(in = "public long digest()", from = "what < COUNTS", to = "what < COUNTS - 1")
    static void digestOfANewObject() {
        due(1019L * 31 * 31 * 31 * 31 * 31 * 31 * 31, new RuneSticks().digest());
        due(digestDue(new RuneSticks()), new RuneSticks().digest());
    }

    @Sentence("what count() tells, in its order")
    @Broken(in = "public long digest()", from = "total(what)", to = "total(6 - what)")
    @Broken(in = "public long digest()", from = "int what = 0", to = "int what = 1")
    static void digestHasWhatCountTellsInItsOrder() {
        RuneSticks x = of(2, 2, 2, 3);
        x.carve(3, 0, 0, 1);
        x.bend(0, 20);
        x.bend(1, 20);
        x.glue(4, 2, 0, 5);
        due(digestDue(x, 12, 12, 12, 12, 12, 5, 12), x.digest());
    }

    @Sentence("d becomes d * 31 + x, which wraps around as a 64-bit integer")
    @Broken(in = "public long digest()", from = "return digest;", to = "return digest & Long.MAX_VALUE;")
    @Broken(in = "public long digest()", from = "return digest;", to = "return (int) digest;")
    @Broken(in = "long addedTo(", from = "sum * DIGEST_FACTOR + factAt(what)",
        to = "(sum * DIGEST_FACTOR + factAt(what)) % 1000000007L")
    static void digestWrapsAround() {
        boolean negative = false;
        boolean positive = false;
        for (int places = 1; places <= 12; places++) {
            RuneSticks x = of(1, 1, 1, places);
            int[] bases = new int[places - 1];
            Arrays.fill(bases, 12);
            long digest = x.digest();
            due(digestDue(x, bases), digest);
            negative |= digest < 0;
            positive |= digest > 0;
        }
        due(true, negative && positive);
    }

    @Sentence("for each stick, also those that are gone, what stick() tells, in its order")
    @Broken(in = "public long digest()", from = "stickOrNull(number)", to = "thereOrNull(number)")
    @Broken(in = "long addedTo(", from = "what < FACTS", to = "what < FACTS - 1")
    static void digestHasThoseThatAreGone() {
        RuneSticks x = of(2);
        x.roll(0, 2);
        x.bend(0, 20);
        due(digestDue(x, 12), x.digest());
        x.glue(2, 1, 1, 7);
        due(digestDue(x, 12, 7), x.digest());
    }

    @Sentence("for each stick, also those that are gone, what stick() tells, in its order")
    @Broken(in = "public long digest()", from = "number < made", to = "number < made - 1")
    @Broken(in = "public long digest()", from = "int number = 0", to = "int number = 1")
    static void digestHasTheFirstAndTheLastOf40() {
        RuneSticks x = inAll(40);
        int[] bases = new int[14];
        Arrays.fill(bases, 12);
        due(digestDue(x, bases), x.digest());
    }

    @Sentence("the runes of its places, each by its sides, -1 for none")
    @Broken(in = "long addedTo(", from = "runeAt(side, place)", to = "Math.max(0, runeAt(side, place))")
    @Broken(in = "long addedTo(", from = "place < places", to = "place < places - 1")
    @Broken(in = "long addedTo(", from = "side < SIDES", to = "side < SIDES - 1")
    @Broken(in = "long addedTo(", from = "runeAt(side, place)", to = "runeAt((side + up) % SIDES, place)")
    static void digestHasEachPlaceByItsSides() {
        RuneSticks x = of(12);
        x.roll(0, 1);
        int[] bases = {12, 12, 12, 12, 12, 12, 12, 12, 12, 12, 12};
        due(digestDue(x, bases), x.digest());
        for (int place = 0; place < 12; place++) {
            for (int side = 0; side < 3; side++) {
                x.carve(0, side, place, (place * 7 + side) % 24);
            }
        }
        x.scrape(0, 2, 11);
        due(digestDue(x, bases), x.digest());
    }

    @Sentence("and the base of each joint")
    @Broken(in = "long addedTo(", from = "baseAt(joint)", to = "strengthAt(joint)")
    @Broken(in = "long addedTo(", from = "joint < places - 1", to = "joint < places - 2")
    @Broken(in = "long addedTo(", from = "int joint = 0", to = "int joint = 1")
    @Broken(in = "private int joinBoth(", from = "base + extra", to = "base")
    static void digestHasTheBaseOfEachJoint() {
        RuneSticks x = of(3);
        fill(x, 0, 1);
        due(digestDue(x, 12, 12), x.digest());
        x.bend(0, 20);
        x.glue(1, 2, 0, 9);
        due(digestDue(x, 12, 12, 12, 12, 12), x.digest());
        x.glue(3, x.make(1), 0, 1);
        due(digestDue(x, 12, 12, 12, 12, 12, 12, 12, 1), x.digest());
    }
}
