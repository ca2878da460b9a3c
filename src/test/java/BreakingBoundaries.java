/** Promises 6 and 7: bend and glue, and what the terms say of breaking and gluing. */
final class BreakingBoundaries extends Checks {
    // ---- Promise 6: bend

    @Sentence("has less strength than the force, it breaks there")
    @Broken(in = "public int bend(", from = ">= force", to = "> force")
    static void bendHoldsIfTheWeakestJointIsAsStrongAsTheForce() {
        RuneSticks x = of(2);
        due(-1, x.bend(0, 12));
        x.carve(0, 0, 0, 1);
        due(-1, x.bend(0, 11));
        due(0, x.stick(0, 6));
        due(1, x.count(1));
        due(0, x.count(3));
    }

    @Sentence("has less strength than the force, it breaks there")
    @Broken(in = "public int bend(", from = ">= force", to = ">= force - 1")
    static void bendBreaksIfTheWeakestJointHasOneLess() {
        RuneSticks x = of(2, 2);
        x.carve(1, 2, 1, 1);
        due(2, x.bend(0, 13));
        due(4, x.bend(1, 12));
        due(2, x.count(3));
    }

    @Sentence("if its weakest joint, of several the first one")
    @Broken(in = "int firstWeakestJoint() {", from = "strengthAt(joint) < strengthAt(weakest)",
        to = "strengthAt(joint) <= strengthAt(weakest)")
    static void bendBreaksTheFirstOfSeveralWeakest() {
        RuneSticks x = of(5, 3);
        x.carve(0, 0, 2, 1);
        x.carve(0, 1, 2, 1);
        due(2, x.bend(0, 11));
        due(2, x.stick(2, 0));
        due(3, x.stick(3, 0));
        due(4, x.bend(1, 13));
        due(1, x.stick(4, 0));
    }

    @Sentence("if its weakest joint, of several the first one")
    @Broken(in = "int firstWeakestJoint() {", from = "|| strengthAt(joint) < strengthAt(weakest)", to = "")
    static void bendBreaksTheWeakestThoughOthersAheadAreWeakEnough() {
        RuneSticks x = of(5);
        carve(x, 0, 0, 1, -1, 1, 1, -1);
        due(1, x.bend(0, 20));
        due(3, x.stick(1, 0));
    }

    @Sentence("if its weakest joint, of several the first one")
    @Broken(in = "int firstWeakestJoint() {", from = "joint < places - 1", to = "joint < places - 2")
    @Broken(in = "int firstWeakestJoint() {", from = "int joint = 0;", to = "int joint = 1;")
    static void bendLooksAtTheFirstAndAtTheLastJoint() {
        RuneSticks x = of(3, 12);
        x.carve(0, 0, 0, 1);
        x.carve(1, 0, 11, 1);
        due(2, x.bend(0, 12));
        due(1, x.stick(2, 0));
        due(4, x.bend(1, 12));
        due(11, x.stick(4, 0));
    }

    @Sentence("if its weakest joint, of several the first one")
    @Broken(in = "int strengthAt(", from = "Math.max(0, baseAt(joint) - runesAtPlace(joint) - runesAtPlace(joint + 1))",
        to = "baseAt(joint) - runesAtPlace(joint) - runesAtPlace(joint + 1)")
    static void bendBreaksTheFirstOfSeveralWithNoStrengthLeft() {
        RuneSticks x = of(1, 1, 1);
        x.glue(0, 1, 0, 6);
        x.glue(3, 2, 0, 1);
        fill(x, 4, 2);
        due(0, x.strength(4, 0));
        due(0, x.strength(4, 1));
        due(5, x.bend(4, 1));
        due(1, x.stick(5, 0));
    }

    @Sentence("-1 if it holds")
    @Broken(in = "public int bend(", from = "joint == NONE || ", to = "")
    static void bendHoldsAStickOfOnePlace() {
        RuneSticks x = of(1);
        fill(x, 0, 1);
        due(-1, x.bend(0, 20));
        due(-1, x.bend(0, 1));
        due(0, x.stick(0, 6));
    }

    @Sentence("Throws `IllegalArgumentException` if force is not 1 to 20")
    @Broken(in = "public int bend(", from = FORCE, to = "needForce(force - 1)")
    static void bendTakesForce1() {
        RuneSticks x = of(1, 1, 1, 1);
        fill(x, 0, 3);
        fill(x, 1, 3);
        x.glue(0, 1, 0, 7);
        due(-1, x.bend(4, 1));
        fill(x, 2, 3);
        fill(x, 3, 3);
        x.glue(2, 3, 0, 6);
        due(6, x.bend(5, 1));
    }

    @Sentence("Throws `IllegalArgumentException` if force is not 1 to 20")
    @Broken(in = "public int bend(", from = FORCE, to = "needForce(force + 1)")
    static void bendTakesForce20() {
        RuneSticks x = of(2);
        due(1, x.bend(0, 20));
    }

    @Sentence("Throws `IllegalArgumentException` if force is not 1 to 20")
    @Broken(in = "public int bend(", from = FORCE, to = "needForce(Math.max(force, 1))")
    @Broken(in = "public int bend(", from = FORCE, to = "needForce(force < 0 ? 1 : force)")
    static void bendRefusesForceBelow1() {
        RuneSticks x = of(2);
        refusedFor(ARGUMENT, force -> x.bend(0, force), 0, -1, MIN);
    }

    @Sentence("Throws `IllegalArgumentException` if force is not 1 to 20")
    @Broken(in = "public int bend(", from = FORCE, to = "needForce(Math.min(force, 20))")
    @Broken(in = "public int bend(", from = FORCE, to = "needForce(force > 21 ? 20 : force)")
    static void bendRefusesForceAbove20() {
        RuneSticks x = of(2);
        refusedFor(ARGUMENT, force -> x.bend(0, force), 21, 22, MAX);
    }

    @Sentence("Throws `IndexOutOfBoundsException` if there is no such stick")
    @Broken(in = "public int bend(", from = KNOWN, to = KNOWS_NEXT)
    @Broken(in = "public int bend(", from = KNOWN, to = KNOWS_MORE)
    @Broken(in = "public int bend(", from = KNOWN, to = KNOWS_LESS)
    static void bendRefusesAnUnknownStick() {
        RuneSticks x = of(1);
        unknownRefused(x, number -> x.bend(number, 1));
    }

    @Sentence("Throws `IllegalStateException` if the stick is gone")
    @Broken(in = "public int bend(", from = "needThere(bent);", to = "")
    static void bendRefusesAStickThatIsGone() {
        RuneSticks x = someGone();
        refusedFor(STATE, number -> x.bend(number, 20), GONE);
        due(7, x.bend(5, 20));
        refused(STATE, () -> x.bend(5, 20));
    }

    @Sentence("Throws `IllegalStateException` if the stick is gone")
    @Broken(in = "public int bend(", from = "needThere(bent);",
        to = "if (bent.jointsWeakerThan(force) > 0) { needThere(bent); }")
    static void bendRefusesAStickThatIsGoneThoughItWouldHold() {
        RuneSticks x = someGone();
        refusedFor(STATE, number -> x.bend(number, 1), GONE);
        x.glue(1, 2, 0, 9);
        refused(STATE, () -> x.bend(1, 20));
    }

    @Sentence("or if it would break, and 12 are there, or there were more than 38")
    @Broken(in = "public int bend(", from = ">= MOST_THERE", to = "> MOST_THERE")
    static void bendRefusesToBreakWhile12AreThere() {
        RuneSticks x = twelveThere(2);
        refused(STATE, () -> x.bend(0, 13));
        refused(STATE, () -> x.bend(11, 20));
        due(12, x.count(1));
    }

    @Sentence("or if it would break, and 12 are there, or there were more than 38")
    @Broken(in = "public int bend(", from = "int joint =",
        to = "if (howManyThere() >= MOST_THERE) { throw new IllegalStateException(); } int joint =")
    static void bendHoldsWhile12AreThere() {
        RuneSticks x = twelveThere(2);
        due(-1, x.bend(0, 12));
        due(-1, x.bend(11, 1));
    }

    @Sentence("at most 12 of them are there at the same time")
    @Broken(in = "public int bend(", from = ">= MOST_THERE", to = ">= MOST_THERE - 1")
    static void bendBreaksWhile11AreThere() {
        RuneSticks x = of(2, 1, 1, 1, 1, 1, 1, 1, 1, 1, 1);
        due(11, x.bend(0, 20));
        due(12, x.count(0));
    }

    @Sentence("or if it would break, and 12 are there, or there were more than 38")
    @Broken(in = "public int bend(", from = "needNumbersLeft(2)", to = "needNumbersLeft(3)")
    static void bendBreaksAfter38InAll() {
        RuneSticks x = inAll(38);
        due(38, x.count(1));
        due(38, x.bend(37, 20));
        due(40, x.count(1));
        due(1, x.stick(38, 0));
        due(1, x.stick(39, 0));
    }

    @Sentence("or if it would break, and 12 are there, or there were more than 38")
    @Broken(in = "public int bend(", from = "needNumbersLeft(2)", to = "needNumbersLeft(1)")
    static void bendRefusesToBreakAfter39InAll() {
        RuneSticks x = inAll(39);
        refused(STATE, () -> x.bend(38, 20));
        due(39, x.count(1));
        due(0, x.stick(38, 6));
    }

    @Sentence("or if it would break, and 12 are there, or there were more than 38")
    @Broken(in = "public int bend(", from = "needNumbersLeft(2)", to = "needNumbersLeft(made == 40 ? 0 : 2)")
    static void bendRefusesToBreakAfter40InAll() {
        RuneSticks x = inAll(40);
        refused(STATE, () -> x.bend(39, 20));
        due(40, x.count(1));
        due(0, x.stick(39, 6));
    }

    @Sentence("or if it would break, and 12 are there, or there were more than 38")
    @Broken(in = "public int bend(", from = "int joint =", to = "needNumbersLeft(2); int joint =")
    @Broken(in = "public int bend(", from = "int joint =", to = "needNumbersLeft(1); int joint =")
    static void bendHoldsAfter39AndAfter40InAll() {
        due(-1, inAll(39).bend(38, 1));
        due(-1, inAll(40).bend(39, 1));
    }

    @Sentence("Returns the number of the first one of the new sticks (the second one has the next number)")
    @Broken(in = "private int breakAt(", from = "return number;", to = "return number + 1;")
    @Broken(in = "private int breakAt(", from = "int number = put(first);\n        put(second);",
        to = "int number = put(second); put(first);")
    static void bendReturnsTheNumberOfTheFirstNewStick() {
        RuneSticks x = of(3);
        due(1, x.bend(0, 20));
        due(1, x.stick(1, 0));
        due(2, x.stick(2, 0));
        due(3, x.count(1));
    }

    // ---- Terms: breaking

    @Sentence("first the one with all places up to the joint, then the one with all places behind it")
    @Broken(in = "private int breakAt(", from = "int ahead = joint + 1", to = "int ahead = Math.max(joint + 1, 2)")
    @Broken(in = "private int breakAt(", from = "int ahead = joint + 1", to = "int ahead = Math.min(joint + 1, 10)")
    static void breakAtTheFirstAndAtTheLastJoint() {
        RuneSticks x = of(12, 12);
        x.carve(0, 1, 0, 17);
        x.carve(1, 1, 11, 18);
        x.bend(0, 12);
        due(1, x.stick(2, 0));
        due(17, x.rune(2, 1, 0));
        due(11, x.stick(3, 0));
        due(0, x.stick(3, 2));
        x.bend(1, 12);
        due(11, x.stick(4, 0));
        due(0, x.stick(4, 2));
        due(1, x.stick(5, 0));
        due(18, x.rune(5, 1, 0));
    }

    @Sentence("both with the joints, runes and side up that it had")
    @Broken(in = "private int breakAt(", from = "first.takePlaces(bent, 0, ahead,",
        to = "first.takePlaces(bent, 0, ahead - 1,")
    @Broken(in = "private int breakAt(", from = "second.takePlaces(bent, ahead, bent.places - ahead,",
        to = "second.takePlaces(bent, ahead, bent.places - ahead - 1,")
    @Broken(in = "private int breakAt(", from = "second.takePlaces(bent, ahead,", to = "second.takePlaces(bent, joint,")
    static void breakKeepsTheRunesOfEachPlaceAndSide() {
        RuneSticks x = of(6);
        for (int place = 0; place < 6; place++) {
            for (int side = 0; side < 3; side++) {
                x.carve(0, side, place, place * 3 + side);
            }
        }
        x.scrape(0, 1, 5);
        x.scrape(0, 2, 0);
        x.bend(0, 7);
        due(2, x.stick(1, 0));
        due(4, x.stick(2, 0));
        for (int place = 0; place < 6; place++) {
            for (int side = 0; side < 3; side++) {
                int got = place < 2 ? x.rune(1, side, place) : x.rune(2, side, place - 2);
                due(x.rune(0, side, place), got);
            }
        }
        due(17, x.rune(2, 2, 3));
        due(0, x.rune(1, 0, 0));
    }

    @Sentence("both with the joints, runes and side up that it had")
    @Broken(in = "private int breakAt(", from = "first.up = bent.up;", to = "")
    @Broken(in = "private int breakAt(", from = "second.up = bent.up;", to = "")
    static void breakKeepsTheSideUp() {
        RuneSticks x = of(2);
        x.roll(0, 2);
        x.bend(0, 20);
        due(2, x.stick(1, 1));
        due(2, x.stick(2, 1));
    }

    @Sentence("both with the joints, runes and side up that it had")
    @Broken(in = "void takePlaces(", from = "putJoint(to + i, source.baseAt(from + i), source.gluedAt(from + i))",
        to = "putJoint(to + i, source.baseAt(from + i), false)")
    @Broken(in = "void takePlaces(", from = "source.baseAt(from + i), source.gluedAt(from + i)",
        to = "source.baseAt(i), source.gluedAt(i)")
    @Broken(in = "void takePlaces(", from = "i < many - 1", to = "i < many - 2")
    static void breakKeepsTheJoints() {
        RuneSticks x = of(1, 1, 1, 1, 1, 1);
        int whole = 0;
        int[] bases = {5, 7, 1, 8, 9};
        for (int i = 0; i < bases.length; i++) {
            whole = x.glue(whole, i + 1, 0, bases[i]);
        }
        due(5, x.stick(whole, 3));
        due(11, x.bend(whole, 2));
        due(3, x.stick(11, 0));
        due(2, x.stick(11, 3));
        due(5, x.strength(11, 0));
        due(7, x.strength(11, 1));
        due(3, x.stick(12, 0));
        due(2, x.stick(12, 3));
        due(8, x.strength(12, 0));
        due(9, x.strength(12, 1));
    }

    @Sentence("Breaks are numbered from 0.")
    @Broken(in = "public RuneSticks() {", from = "breaks = 0;", to = "breaks = 1;")
    @Broken(in = "private int breakAt(", from = "breaks++;", to = "")
    static void breaksAreNumberedFrom0() {
        RuneSticks x = of(3, 2);
        x.bend(0, 20);
        due(0, x.stick(2, 5));
        x.bend(1, 20);
        due(1, x.stick(4, 5));
        x.bend(3, 20);
        due(2, x.stick(6, 5));
        due(3, x.count(3));
    }

    @Sentence("The end of the first one and the beginning of the second one are of this break")
    @Broken(in = "private int breakAt(", from = "first.endBreak = breaks;", to = "")
    @Broken(in = "private int breakAt(", from = "second.beginBreak = breaks;", to = "")
    static void breakMarksTheEndAndTheBeginning() {
        RuneSticks x = of(3);
        x.bend(0, 20);
        due(0, x.stick(1, 5));
        due(0, x.stick(2, 4));
        x.bend(2, 20);
        due(1, x.stick(3, 5));
        due(1, x.stick(4, 4));
    }

    @Sentence("the other beginning and end are of the break of which they were before, if of any")
    @Broken(in = "private int breakAt(", from = "first.beginBreak = bent.beginBreak;", to = "")
    @Broken(in = "private int breakAt(", from = "second.endBreak = bent.endBreak;", to = "")
    static void breakLeavesTheOtherBeginningAndEndAsTheyWere() {
        RuneSticks x = of(4);
        x.carve(0, 0, 3, 1);
        x.bend(0, 20);
        due(3, x.stick(1, 0));
        x.bend(1, 20);
        due(-1, x.stick(3, 4));
        due(0, x.stick(4, 5));
        x.bend(4, 20);
        due(1, x.stick(5, 4));
        due(2, x.stick(5, 5));
        due(2, x.stick(6, 4));
        due(0, x.stick(6, 5));
    }

    @Sentence("the other beginning and end are of the break of which they were before, if of any")
    @Broken(in = "private int breakAt(", from = "first.beginBreak = bent.beginBreak;",
        to = "first.beginBreak = breaks;")
    @Broken(in = "private int breakAt(", from = "second.endBreak = bent.endBreak;", to = "second.endBreak = breaks;")
    static void breakLeavesTheOtherBeginningAndEndWithoutABreak() {
        RuneSticks x = of(2);
        x.bend(0, 20);
        due(-1, x.stick(1, 4));
        due(-1, x.stick(2, 5));
    }

    @Sentence("A stick that breaks at a joint is gone")
    @Broken(in = "private int breakAt(", from = "bent.gone = true;", to = "")
    static void breakLeavesTheStickGone() {
        RuneSticks x = of(2);
        x.bend(0, 20);
        due(1, x.stick(0, 6));
        due(2, x.count(0));
        x.glue(1, 2, 0, 9);
        due(1, x.stick(0, 6));
        due(1, x.count(0));
    }

    // ---- Promise 7: glue

    @Sentence("Throws `IllegalArgumentException` if twist is not 0 to 2, or base is not 1 to 9")
    @Broken(in = "public int glue(", from = "twist < 0", to = "twist < 1")
    static void glueTakesTwist0() {
        RuneSticks x = of(1, 1);
        x.carve(1, 2, 0, 6);
        due(2, x.glue(0, 1, 0, 5));
        due(6, x.rune(2, 2, 1));
    }

    @Sentence("Throws `IllegalArgumentException` if twist is not 0 to 2, or base is not 1 to 9")
    @Broken(in = "public int glue(", from = "twist >= SIDES", to = "twist >= SIDES - 1")
    static void glueTakesTwist2() {
        RuneSticks x = of(1, 1);
        x.carve(1, 2, 0, 6);
        due(2, x.glue(0, 1, 2, 5));
        due(6, x.rune(2, 0, 1));
    }

    @Sentence("Throws `IllegalArgumentException` if twist is not 0 to 2, or base is not 1 to 9")
    @Broken(in = "public int glue(", from = "base < 1", to = "base < 2")
    static void glueTakesBase1() {
        RuneSticks x = of(1, 1);
        due(2, x.glue(0, 1, 0, 1));
        due(1, x.strength(2, 0));
    }

    @Sentence("Throws `IllegalArgumentException` if twist is not 0 to 2, or base is not 1 to 9")
    @Broken(in = "public int glue(", from = "base > MOST_GLUED_BASE", to = "base >= MOST_GLUED_BASE")
    static void glueTakesBase9() {
        RuneSticks x = of(1, 1);
        due(2, x.glue(0, 1, 0, 9));
        due(9, x.strength(2, 0));
    }

    @Sentence("Throws `IllegalArgumentException` if twist is not 0 to 2, or base is not 1 to 9")
    @Broken(in = "public int glue(", from = "twist < 0", to = "twist < -1")
    @Broken(in = "public int glue(", from = "twist < 0", to = "twist == -1")
    static void glueRefusesATwistBelow0() {
        RuneSticks x = of(1, 1);
        refusedFor(ARGUMENT, twist -> x.glue(0, 1, twist, 5), -1, -2, -3, MIN);
    }

    @Sentence("Throws `IllegalArgumentException` if twist is not 0 to 2, or base is not 1 to 9")
    @Broken(in = "public int glue(", from = "twist >= SIDES", to = "twist > SIDES")
    @Broken(in = "public int glue(", from = "twist >= SIDES", to = "twist == SIDES")
    static void glueRefusesATwistAbove2() {
        RuneSticks x = of(1, 1);
        refusedFor(ARGUMENT, twist -> x.glue(0, 1, twist, 5), 3, 4, MAX);
    }

    @Sentence("Throws `IllegalArgumentException` if twist is not 0 to 2, or base is not 1 to 9")
    @Broken(in = "public int glue(", from = "base < 1", to = "base < 0")
    @Broken(in = "public int glue(", from = "base < 1", to = "base == 0")
    static void glueRefusesABaseBelow1() {
        RuneSticks x = of(1, 1);
        refusedFor(ARGUMENT, base -> x.glue(0, 1, 0, base), 0, -1, MIN);
    }

    @Sentence("Throws `IllegalArgumentException` if twist is not 0 to 2, or base is not 1 to 9")
    @Broken(in = "public int glue(", from = "base > MOST_GLUED_BASE", to = "base > MOST_GLUED_BASE + 1")
    @Broken(in = "public int glue(", from = "base > MOST_GLUED_BASE", to = "base == MOST_GLUED_BASE + 1")
    @Broken(in = "public int glue(", from = "base > MOST_GLUED_BASE",
        to = "base > MOST_GLUED_BASE && base != WOODEN_BASE")
    static void glueRefusesABaseAbove9() {
        RuneSticks x = of(1, 1);
        refusedFor(ARGUMENT, base -> x.glue(0, 1, 0, base), 10, 11, 12, 13, MAX);
    }

    @Sentence("Throws `IndexOutOfBoundsException` if there is no such stick")
    @Broken(in = "public int glue(", from = KNOWN, to = KNOWS_NEXT)
    @Broken(in = "public int glue(", from = KNOWN, to = KNOWS_MORE)
    @Broken(in = "public int glue(", from = KNOWN, to = KNOWS_LESS)
    static void glueRefusesAnUnknownFirstStick() {
        RuneSticks x = of(1, 1);
        unknownRefused(x, number -> x.glue(number, 1, 0, 5));
    }

    @Sentence("Throws `IndexOutOfBoundsException` if there is no such stick")
    @Broken(in = "public int glue(", from = KNOWN_OTHER, to = KNOWS_NEXT_OTHER)
    @Broken(in = "public int glue(", from = KNOWN_OTHER, to = KNOWS_MORE_OTHER)
    @Broken(in = "public int glue(", from = KNOWN_OTHER, to = KNOWS_LESS_OTHER)
    static void glueRefusesAnUnknownSecondStick() {
        RuneSticks x = of(1, 1);
        unknownRefused(x, number -> x.glue(0, number, 0, 5));
    }

    @Sentence("Throws `IllegalStateException` if one is gone, both are the same one")
    @Broken(in = "public int glue(", from = "needThere(first);", to = "")
    static void glueRefusesAFirstStickThatIsGone() {
        RuneSticks x = someGone();
        refusedFor(STATE, number -> x.glue(number, 1, 0, 5), GONE);
        due(7, x.glue(2, 1, 0, 5));
    }

    @Sentence("Throws `IllegalStateException` if one is gone, both are the same one")
    @Broken(in = "public int glue(", from = "needThere(second);", to = "")
    static void glueRefusesASecondStickThatIsGone() {
        RuneSticks x = someGone();
        refusedFor(STATE, number -> x.glue(1, number, 0, 5), GONE);
        due(7, x.glue(1, 2, 0, 5));
    }

    @Sentence("Throws `IllegalStateException` if one is gone, both are the same one")
    @Broken(in = "public int glue(", from = "first == second", to = "first == null")
    static void glueRefusesAStickToItself() {
        RuneSticks x = of(1, 6);
        refused(STATE, () -> x.glue(0, 0, 0, 5));
        refused(STATE, () -> x.glue(1, 1, 2, 5));
    }

    @Sentence("they have more than 12 places together, or there were 40")
    @Broken(in = "public int glue(", from = "> MOST_PLACES", to = ">= MOST_PLACES")
    static void glueTakes12PlacesTogether() {
        RuneSticks x = of(6, 6, 1, 11, 11, 1);
        due(6, x.glue(0, 1, 0, 5));
        due(12, x.stick(6, 0));
        due(7, x.glue(2, 3, 0, 5));
        due(12, x.stick(7, 0));
        due(8, x.glue(4, 5, 0, 5));
        due(12, x.stick(8, 0));
    }

    @Sentence("they have more than 12 places together, or there were 40")
    @Broken(in = "public int glue(", from = "> MOST_PLACES", to = "> MOST_PLACES + 1")
    @Broken(in = "public int glue(", from = "> MOST_PLACES", to = "== MOST_PLACES + 1")
    static void glueRefuses13PlacesTogether() {
        RuneSticks x = of(1, 12, 7, 6, 12);
        refused(STATE, () -> x.glue(0, 1, 0, 5));
        refused(STATE, () -> x.glue(1, 0, 0, 5));
        refused(STATE, () -> x.glue(2, 3, 0, 5));
        refused(STATE, () -> x.glue(2, 1, 0, 5));
        refused(STATE, () -> x.glue(1, 4, 0, 5));
    }

    @Sentence("at most 40 in all")
    @Broken(in = "public int glue(", from = "needNumbersLeft(1)", to = "needNumbersLeft(2)")
    static void glueMakesThe40th() {
        RuneSticks x = inAll(39);
        due(39, x.glue(38, 0, 0, 5));
        due(3, x.stick(39, 0));
        due(40, x.count(1));
    }

    @Sentence("they have more than 12 places together, or there were 40")
    @Broken(in = "public int glue(", from = "needNumbersLeft(1)", to = "needNumbersLeft(0)")
    static void glueRefusesToMakeA41st() {
        RuneSticks x = inAll(39);
        x.make(1);
        refused(STATE, () -> x.glue(38, 39, 0, 5));
        refused(STATE, () -> x.glue(0, 1, 0, 5));
        due(40, x.count(1));
        due(4, x.count(0));
    }

    @Sentence("Two sticks that are glued, the end of the first one to the beginning of the second one")
    @Broken(in = "public int glue(", from = "needNumbersLeft(1);",
        to = "needNumbersLeft(1); if (howManyThere() >= MOST_THERE) { throw new IllegalStateException(); }")
    static void glueMakesOneWhile12AreThere() {
        RuneSticks x = twelveThere(1);
        due(12, x.glue(0, 11, 0, 5));
        due(11, x.count(0));
    }

    @Sentence("Returns the number of the new stick.")
    @Broken(in = "private int joinBoth(", from = "return put(joined);", to = "return put(joined) - 1;")
    static void glueReturnsTheNumberOfTheNewStick() {
        RuneSticks x = of(1, 1, 2);
        due(3, x.glue(0, 1, 0, 5));
        due(4, x.glue(3, 2, 0, 5));
        due(4, x.stick(4, 0));
    }

    // ---- Terms: gluing

    @Sentence("with a twist, 0 to 2, are gone")
    @Broken(in = "private int joinBoth(", from = "first.gone = true;", to = "")
    static void glueLeavesTheFirstOneGone() {
        RuneSticks x = of(1, 1);
        x.glue(0, 1, 0, 5);
        due(1, x.stick(0, 6));
        refused(STATE, () -> x.roll(0, 0));
    }

    @Sentence("with a twist, 0 to 2, are gone")
    @Broken(in = "private int joinBoth(", from = "second.gone = true;", to = "")
    static void glueLeavesTheSecondOneGone() {
        RuneSticks x = of(1, 1);
        x.glue(0, 1, 0, 5);
        due(1, x.stick(1, 6));
        refused(STATE, () -> x.roll(1, 0));
    }

    @Sentence("a new one has the places of the first one, then those of the second one")
    @Broken(in = "private int joinBoth(", from = "second, 0, second.places, first.places, twist",
        to = "second, 0, second.places - 1, first.places, twist")
    @Broken(in = "private int joinBoth(", from = "first, 0, first.places, 0, 0",
        to = "first, 0, first.places - 1, 0, 0")
    static void glueKeepsThePlacesOfBothInOrder() {
        RuneSticks x = of(5, 7);
        carve(x, 0, 1, 0, 1, 2, 3, 4);
        carve(x, 1, 1, 5, 6, 7, 8, 9, 10, 11);
        x.glue(0, 1, 0, 5);
        for (int place = 0; place < 12; place++) {
            due(place, x.rune(2, 1, place));
            due(-1, x.rune(2, 0, place));
        }
    }

    @Sentence("there it has on its side s what the second one had on the side (s + twist) by the remainder of 3")
    @Broken(in = "void takePlaces(", from = "(side + twist) % SIDES", to = "Math.min(side + twist, 2)")
    @Broken(in = "void takePlaces(", from = "(side + twist) % SIDES", to = "side + twist > 2 ? 0 : side + twist")
    @Broken(in = "void takePlaces(", from = "(side + twist) % SIDES", to = "(side + SIDES - twist) % SIDES")
    static void glueTurnsTheSidesOfTheSecondOneRound() {
        int[][] want = {{0, 1, 2}, {1, 2, 0}, {2, 0, 1}};
        for (int twist = 0; twist < 3; twist++) {
            RuneSticks x = of(1, 1);
            for (int side = 0; side < 3; side++) {
                x.carve(1, side, 0, side);
            }
            x.glue(0, 1, twist, 5);
            for (int side = 0; side < 3; side++) {
                due(want[twist][side], x.rune(2, side, 1));
            }
        }
    }

    @Sentence("there it has on its side s what the second one had on the side (s + twist) by the remainder of 3")
    @Broken(in = "private int joinBoth(", from = "first, 0, first.places, 0, 0",
        to = "first, 0, first.places, 0, twist")
    static void glueDoesNotTurnTheSidesOfTheFirstOne() {
        RuneSticks x = of(1, 1);
        for (int side = 0; side < 3; side++) {
            x.carve(0, side, 0, side);
        }
        x.glue(0, 1, 2, 5);
        for (int side = 0; side < 3; side++) {
            due(side, x.rune(2, side, 0));
        }
    }

    @Sentence("The side that was up on the first one is up")
    @Broken(in = "private int joinBoth(", from = "joined.up = first.up;", to = "joined.up = second.up;")
    @Broken(in = "private int joinBoth(", from = "joined.up = first.up;", to = "")
    @Broken(in = "private int joinBoth(", from = "joined.up = first.up;",
        to = "joined.up = (first.up + twist) % SIDES;")
    static void glueKeepsTheSideUpOfTheFirstOne() {
        RuneSticks x = of(1, 1);
        x.roll(0, 2);
        x.roll(1, 1);
        x.glue(0, 1, 1, 5);
        due(2, x.stick(2, 1));
    }

    @Sentence("there it has on its side s what the second one had on the side (s + twist) by the remainder of 3")
    @Broken(in = "private int joinBoth(", from = "first.places, twist",
        to = "first.places, (twist + second.up) % SIDES")
    static void glueTurnsTheSidesWhateverIsUpOnTheSecondOne() {
        RuneSticks x = of(1, 1);
        x.carve(1, 2, 0, 9);
        x.roll(1, 1);
        x.glue(0, 1, 1, 5);
        due(9, x.rune(2, 1, 1));
    }

    @Sentence("the beginning is that of the first one, the end that of the second one, by their breaks")
    @Broken(in = "private int joinBoth(", from = "joined.beginBreak = first.beginBreak;", to = "")
    @Broken(in = "private int joinBoth(", from = "joined.endBreak = second.endBreak;", to = "")
    static void glueKeepsTheBreaksOfItsBeginningAndEnd() {
        RuneSticks x = of(3);
        x.bend(0, 20);
        x.bend(2, 20);
        // 1 ends with break 0, 3 begins with it and ends with break 1, with which 4 begins.
        x.glue(4, 1, 0, 5);
        due(1, x.stick(5, 4));
        due(0, x.stick(5, 5));
        x.glue(5, 3, 0, 5);
        due(1, x.stick(6, 4));
        due(1, x.stick(6, 5));
    }

    @Sentence("the beginning is that of the first one, the end that of the second one, by their breaks")
    @Broken(in = "private int joinBoth(", from = "joined.beginBreak = first.beginBreak;",
        to = "joined.beginBreak = Math.max(first.beginBreak, second.beginBreak);")
    @Broken(in = "private int joinBoth(", from = "joined.endBreak = second.endBreak;",
        to = "joined.endBreak = Math.max(first.endBreak, second.endBreak);")
    static void glueKeepsABeginningAndAnEndWithoutABreak() {
        RuneSticks x = of(2);
        x.bend(0, 20);
        x.glue(1, 2, 0, 5);
        due(-1, x.stick(3, 4));
        due(-1, x.stick(3, 5));
    }

    @Sentence("Joints stay as they were")
    @Broken(in = "void takePlaces(", from = "i < many - 1", to = "i < many - 2")
    @Broken(in = "void takePlaces(", from = "putJoint(to + i,", to = "putJoint(i,")
    @Broken(in = "void takePlaces(", from = "source.gluedAt(from + i)", to = "false")
    static void glueKeepsTheJointsOfBoth() {
        RuneSticks x = of(2, 1, 1, 2);
        x.glue(0, 1, 0, 3);
        x.glue(2, 3, 0, 4);
        x.glue(4, 5, 0, 5);
        int[] want = {12, 3, 5, 4, 12};
        for (int joint = 0; joint < want.length; joint++) {
            due(want[joint], x.strength(6, joint));
        }
        due(3, x.stick(6, 3));
    }

    @Sentence("the new one between both is glued, with the base that is told")
    @Broken(in = "private int joinBoth(", from = "base + extra, true", to = "base + extra, false")
    @Broken(in = "private int joinBoth(", from = "putJoint(first.places - 1", to = "putJoint(first.places")
    static void glueMakesOneGluedJoint() {
        RuneSticks x = of(2, 2);
        x.glue(0, 1, 0, 7);
        due(1, x.stick(2, 3));
        due(12, x.strength(2, 0));
        due(7, x.strength(2, 1));
        due(12, x.strength(2, 2));
    }

    @Sentence("if both fit, and the twist is 0, with 3 more")
    @Broken(in = "private static final int FIT_EXTRA", from = "= 3", to = "= 2")
    @Broken(in = "private int joinBoth(", from = "base + extra", to = "Math.min(base + extra, 9)")
    static void glueGives3MoreToThoseThatFit() {
        for (int base : new int[] {1, 9}) {
            RuneSticks x = of(2);
            x.bend(0, 20);
            x.glue(1, 2, 0, base);
            due(base + 3, x.strength(3, 0));
            due(1, x.stick(3, 3));
        }
    }

    @Sentence("if both fit, and the twist is 0, with 3 more")
    @Broken(in = "private int joinBoth(", from = "twist == 0 && ", to = "")
    @Broken(in = "private int joinBoth(", from = "twist == 0 && ", to = "twist < 2 && ")
    static void glueGivesNoMoreToThoseThatFitWithATwist() {
        for (int twist = 1; twist < 3; twist++) {
            RuneSticks x = of(2);
            x.bend(0, 20);
            x.glue(1, 2, twist, 5);
            due(5, x.strength(3, 0));
        }
    }

    @Sentence("if both fit, and the twist is 0, with 3 more")
    @Broken(in = "private int joinBoth(", from = "first.fitsAheadOf(second)", to = "breaks > 0")
    @Broken(in = "private int joinBoth(", from = "first.fitsAheadOf(second)",
        to = "(first.fitsAheadOf(second) || second.fitsAheadOf(first))")
    static void glueGivesNoMoreToThoseThatDoNotFit() {
        RuneSticks x = of(2, 2);
        x.bend(0, 20);
        x.bend(1, 20);
        x.glue(2, 5, 0, 4);
        due(4, x.strength(6, 0));
        RuneSticks y = of(2);
        y.bend(0, 20);
        y.glue(2, 1, 0, 5);
        due(5, y.strength(3, 0));
    }

    @Sentence("Two sticks fit, if the end of the first one and the beginning of the second one are of the same break")
    @Broken(in = "boolean fitsAheadOf(", from = "endBreak != NONE && ", to = "")
    static void glueGivesNoMoreToThoseWithoutABreak() {
        RuneSticks x = of(1, 1);
        x.glue(0, 1, 0, 5);
        due(5, x.strength(2, 0));
    }
}
