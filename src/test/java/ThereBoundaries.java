/** Promises 8 to 12: stick, rune, strength, count, fits. */
final class ThereBoundaries extends Checks {
    // ---- Promise 8: stick

    @Sentence("`what`: 0 its places, 1 the side that is up, 2 its runes, 3 its glued joints")
    @Broken(in = "public int make(", from = "put(new Stick(places))", to = "put(new Stick(Math.min(places, 11)))")
    @Broken(in = "public int make(", from = "put(new Stick(places))", to = "put(new Stick(Math.max(places, 2)))")
    static void stickTells1To12Places() {
        RuneSticks x = of(1, 12);
        due(1, x.stick(0, 0));
        due(12, x.stick(1, 0));
    }

    @Sentence("`what`: 0 its places, 1 the side that is up, 2 its runes, 3 its glued joints")
    @Broken(in = "int factAt(", from = "return up;", to = "return up & 1;")
    static void stickTellsTheSides0To2() {
        RuneSticks x = of(1);
        for (int up = 0; up < 3; up++) {
            due(up, x.stick(0, 1));
            x.roll(0, 1);
        }
        due(0, x.stick(0, 1));
    }

    @Sentence("`what`: 0 its places, 1 the side that is up, 2 its runes, 3 its glued joints")
    @Broken(in = "int runesInAll() {", from = "place < places", to = "place < places - 1")
    @Broken(in = "int runesAtPlace(", from = "side < SIDES", to = "side < SIDES - 1")
    @Broken(in = "int runesAtPlace(", from = "!= NONE", to = "> 0")
    static void stickTells0To36Runes() {
        RuneSticks x = of(12);
        due(0, x.stick(0, 2));
        fill(x, 0, 0);
        due(36, x.stick(0, 2));
        x.carve(0, 1, 1, 3);
        due(36, x.stick(0, 2));
        x.scrape(0, 2, 11);
        due(35, x.stick(0, 2));
    }

    @Sentence("`what`: 0 its places, 1 the side that is up, 2 its runes, 3 its glued joints")
    @Broken(in = "int gluedJoints() {", from = "joint < places - 1", to = "joint < places - 2")
    @Broken(in = "int gluedJoints() {", from = "int joint = 0", to = "int joint = 1")
    static void stickTells0To11GluedJoints() {
        RuneSticks x = twelveThere(1);
        int whole = 0;
        for (int i = 1; i < 12; i++) {
            due(i - 1, x.stick(whole, 3));
            whole = x.glue(whole, i, 0, 5);
        }
        due(11, x.stick(whole, 3));
        due(0, x.stick(x.make(12), 3));
    }

    @Sentence("`what`: 0 its places, 1 the side that is up, 2 its runes, 3 its glued joints")
    @Broken(in = "boolean gluedAt(", from = "glued[joint]", to = "bases[joint] != WOODEN_BASE")
    static void stickTellsAGluedJointAsStrongAsWood() {
        RuneSticks x = of(2);
        x.bend(0, 20);
        x.glue(1, 2, 0, 9);
        due(12, x.strength(3, 0));
        due(1, x.stick(3, 3));
    }

    @Sentence("(4 and 5: -1 without one)")
    @Broken(in = "Stick(int places) {", from = "beginBreak = NONE;", to = "beginBreak = 0;")
    @Broken(in = "Stick(int places) {", from = "endBreak = NONE;", to = "endBreak = 0;")
    static void stickTellsMinus1WithoutABreak() {
        RuneSticks x = of(2);
        due(-1, x.stick(0, 4));
        due(-1, x.stick(0, 5));
        x.bend(0, 20);
        due(-1, x.stick(0, 4));
        due(-1, x.stick(0, 5));
    }

    @Sentence("4 the break of its beginning, 5 that of its end")
    @Broken(in = "int factAt(", from = "return beginBreak;", to = "return beginBreak <= 0 ? NONE : beginBreak;")
    @Broken(in = "int factAt(", from = "return endBreak;", to = "return endBreak <= 0 ? NONE : endBreak;")
    @Broken(in = "int factAt(", from = "return endBreak;", to = "return beginBreak;")
    static void stickTellsBreak0() {
        RuneSticks x = of(2);
        x.bend(0, 20);
        due(-1, x.stick(1, 4));
        due(0, x.stick(1, 5));
        due(0, x.stick(2, 4));
        due(-1, x.stick(2, 5));
    }

    @Sentence("6 1 if it is gone, else 0")
    @Broken(in = "int factAt(", from = "gone ? 1 : 0", to = "gone ? 0 : 1")
    static void stickTellsWhetherItIsGone() {
        RuneSticks x = someGone();
        int[] want = {1, 0, 0, 1, 1, 0, 0};
        for (int number = 0; number < 7; number++) {
            due(want[number], x.stick(number, 6));
        }
    }

    @Sentence("Returns this (of one that is gone as it was).")
    @Broken(in = "public int stick(", from = "asked.factAt(what)",
        to = "(asked.gone && what < 4 ? 0 : asked.factAt(what))")
    @Broken(in = "public int stick(", from = "asked.factAt(what)",
        to = "(asked.gone && (what == 4 || what == 5) ? NONE : asked.factAt(what))")
    @Broken(in = "private int breakAt(", from = "first.up = bent.up;", to = "first.up = bent.up; bent.up = 0;")
    @Broken(in = "private int breakAt(", from = "breaks++;",
        to = "breaks++; bent.endBreak = NONE; bent.beginBreak = NONE;")
    static void stickTellsOfOneThatIsGoneAsItWas() {
        RuneSticks x = of(3);
        x.bend(0, 20);
        fill(x, 1, 7);
        x.roll(1, 2);
        // 2 begins with break 0; it ends with break 1 once it is broken and glued the other way round.
        x.bend(2, 20);
        int whole = x.glue(4, 3, 0, 5);
        due(5, whole);
        x.carve(5, 1, 1, 9);
        x.roll(5, 1);
        x.bend(5, 5);
        x.carve(6, 0, 0, 1);
        x.roll(7, 1);
        int[] want = {2, 1, 1, 1, 1, 1, 1};
        for (int what = 0; what <= 6; what++) {
            due(want[what], x.stick(5, what));
        }
        int[] wantOf2 = {2, 0, 0, 0, 0, -1, 1};
        for (int what = 0; what <= 6; what++) {
            due(wantOf2[what], x.stick(2, what));
        }
    }

    @Sentence("Throws `IndexOutOfBoundsException` if there is no such stick, or what is not 0 to 6")
    @Broken(in = "public int stick(", from = KNOWN, to = KNOWS_NEXT)
    @Broken(in = "public int stick(", from = KNOWN, to = KNOWS_MORE)
    @Broken(in = "public int stick(", from = KNOWN, to = KNOWS_LESS)
    static void stickRefusesAnUnknownStick() {
        RuneSticks x = of(1, 1);
        unknownRefused(x, number -> x.stick(number, 0));
    }

    @Sentence("at most 40 in all")
    @Broken(in = "private Stick stickOrNull(", from = "number >= sticks.length", to = "number > sticks.length")
    @Broken(in = "private Stick stickOrNull(", from = "number >= sticks.length", to = "number >= sticks.length - 1")
    static void stickRefusesNumber40AndKnows39() {
        RuneSticks x = inAll(40);
        due(2, x.stick(39, 0));
        unknownRefused(x, number -> x.stick(number, 0));
    }

    @Sentence("Throws `IndexOutOfBoundsException` if there is no such stick, or what is not 0 to 6")
    @Broken(in = "public int stick(", from = "what < 0", to = "what < -1")
    @Broken(in = "public int stick(", from = "what < 0", to = "what == -1")
    static void stickRefusesWhatBelow0() {
        RuneSticks x = of(1);
        refusedFor(INDEX, what -> x.stick(0, what), -1, -2, MIN);
    }

    @Sentence("Throws `IndexOutOfBoundsException` if there is no such stick, or what is not 0 to 6")
    @Broken(in = "public int stick(", from = "what >= FACTS", to = "what > FACTS")
    @Broken(in = "public int stick(", from = "what >= FACTS", to = "what == FACTS")
    static void stickRefusesWhatAbove6() {
        RuneSticks x = of(1);
        refusedFor(INDEX, what -> x.stick(0, what), 7, 8, MAX);
    }

    // ---- Promise 9: rune

    @Sentence("Returns the rune there, -1 for none")
    @Broken(in = "public int rune(", from = "return asked.runeAt(side, place);",
        to = "return Math.max(0, asked.runeAt(side, place));")
    @Broken(in = "public int rune(", from = "return asked.runeAt(side, place);",
        to = "return asked.runeAt(side, place) <= 0 ? NONE : asked.runeAt(side, place);")
    static void runeTellsMinus1ForNone() {
        RuneSticks x = carved(0, -1, 23);
        due(0, x.rune(0, 0, 0));
        due(-1, x.rune(0, 0, 1));
        due(23, x.rune(0, 0, 2));
        due(-1, x.rune(0, 2, 2));
    }

    @Sentence("at each place of each side one rune, or none")
    @Broken(in = "void putRune(", from = "place * SIDES + side", to = "(place * SIDES + side) % 35")
    @Broken(in = "public int rune(", from = "runeAt(side, place)", to = "runeAt((side + asked.up) % SIDES, place)")
    static void runeTellsEachPlaceOfEachSide() {
        RuneSticks x = of(12);
        for (int place = 0; place < 12; place++) {
            for (int side = 0; side < 3; side++) {
                x.carve(0, side, place, (place * 5 + side * 3) % 24);
            }
        }
        x.roll(0, 1);
        for (int place = 0; place < 12; place++) {
            for (int side = 0; side < 3; side++) {
                due((place * 5 + side * 3) % 24, x.rune(0, side, place));
            }
        }
    }

    @Sentence("(of a stick that is gone as it was)")
    @Broken(in = "public int rune(", from = "return asked.runeAt(side, place);",
        to = "return asked.gone ? NONE : asked.runeAt(side, place);")
    static void runeTellsOfAStickThatIsGoneAsItWas() {
        RuneSticks x = someGone();
        x.carve(1, 0, 0, 9);
        x.scrape(2, 1, 0);
        x.carve(5, 0, 0, 9);
        x.scrape(5, 2, 3);
        for (int gone : GONE) {
            for (int place = 0; place < 2; place++) {
                for (int side = 0; side < 3; side++) {
                    due(4, x.rune(gone, side, place));
                }
            }
        }
    }

    @Sentence("Throws `IndexOutOfBoundsException` if there is no such stick, side is not 0 to 2, or it has no such place")
    @Broken(in = "public int rune(", from = KNOWN, to = KNOWS_NEXT)
    @Broken(in = "public int rune(", from = KNOWN, to = KNOWS_MORE)
    @Broken(in = "public int rune(", from = KNOWN, to = KNOWS_LESS)
    static void runeRefusesAnUnknownStick() {
        RuneSticks x = of(1, 1);
        unknownRefused(x, number -> x.rune(number, 0, 0));
    }

    @Sentence("Throws `IndexOutOfBoundsException` if there is no such stick, side is not 0 to 2, or it has no such place")
    @Broken(in = "public int rune(", from = "needPlace(asked, side,", to = "needPlace(asked, Math.max(side, 0),")
    @Broken(in = "public int rune(", from = "needPlace(asked, side,", to = "needPlace(asked, side < -1 ? 0 : side,")
    static void runeRefusesASideBelow0() {
        RuneSticks x = of(2);
        refusedFor(INDEX, side -> x.rune(0, side, 1), -1, -2, MIN);
    }

    @Sentence("Throws `IndexOutOfBoundsException` if there is no such stick, side is not 0 to 2, or it has no such place")
    @Broken(in = "public int rune(", from = "needPlace(asked, side,", to = "needPlace(asked, Math.min(side, 2),")
    @Broken(in = "public int rune(", from = "needPlace(asked, side,", to = "needPlace(asked, side > 3 ? 0 : side,")
    static void runeRefusesASideAbove2() {
        RuneSticks x = of(2);
        refusedFor(INDEX, side -> x.rune(0, side, 0), 3, 4, MAX);
    }

    @Sentence("Throws `IndexOutOfBoundsException` if there is no such stick, side is not 0 to 2, or it has no such place")
    @Broken(in = "public int rune(", from = "needPlace(asked, side, place",
        to = "needPlace(asked, side, Math.max(place, 0)")
    @Broken(in = "public int rune(", from = "needPlace(asked, side, place",
        to = "needPlace(asked, side, place < -1 ? 0 : place")
    static void runeRefusesAPlaceBelow0() {
        RuneSticks x = of(2);
        refusedFor(INDEX, place -> x.rune(0, 1, place), -1, -2, MIN);
    }

    @Sentence("Throws `IndexOutOfBoundsException` if there is no such stick, side is not 0 to 2, or it has no such place")
    @Broken(in = "public int rune(", from = "needPlace(asked, side, place",
        to = "needPlace(asked, side, place == asked.places ? 0 : place")
    @Broken(in = "public int rune(", from = "needPlace(asked, side, place",
        to = "needPlace(asked, side, place > asked.places ? 0 : place")
    static void runeRefusesAPlaceBehindTheLast() {
        RuneSticks x = of(1, 12);
        refusedFor(INDEX, place -> x.rune(0, 0, place), 1, 2, 12, MAX);
        refusedFor(INDEX, place -> x.rune(1, 0, place), 12, 13, MAX);
    }

    // ---- Promise 10: strength

    @Sentence("It is wooden, with a base of 12")
    @Broken(in = "private static final int WOODEN_BASE", from = "= 12", to = "= 11")
    @Broken(in = "Stick(int places) {", from = "Arrays.fill(bases, WOODEN_BASE)",
        to = "Arrays.fill(bases, 0, MOST_JOINTS - 1, WOODEN_BASE)")
    static void strengthOfWoodIs12AtTheFirstAndAtTheLastJoint() {
        RuneSticks x = of(2, 12);
        due(12, x.strength(0, 0));
        due(12, x.strength(1, 0));
        due(12, x.strength(1, 10));
    }

    @Sentence("Its strength is its base, less 1 for each rune at both places on all sides")
    @Broken(in = "int strengthAt(", from = "- runesAtPlace(joint) ", to = "")
    @Broken(in = "int strengthAt(", from = "- runesAtPlace(joint + 1)", to = "")
    @Broken(in = "int runesAtPlace(", from = "side < SIDES", to = "side < SIDES - 1")
    @Broken(in = "int runesAtPlace(", from = "!= NONE", to = "> 0")
    static void strengthLosesUpTo3AtEachOfBothPlaces() {
        RuneSticks x = of(4);
        int want = 12;
        for (int side = 0; side < 3; side++) {
            x.carve(0, side, 1, 0);
            want--;
            due(want, x.strength(0, 1));
            x.carve(0, side, 2, 23);
            want--;
            due(want, x.strength(0, 1));
        }
        due(6, x.strength(0, 1));
        due(9, x.strength(0, 0));
        due(9, x.strength(0, 2));
    }

    @Sentence("Its strength is its base, less 1 for each rune at both places on all sides; at least 0.")
    @Broken(in = "int strengthAt(", from = "Math.max(0, ", to = "Math.max(1, ")
    static void strengthComesDownTo0() {
        RuneSticks x = of(1, 1, 1);
        for (int stick = 0; stick < 3; stick++) {
            fill(x, stick, 2);
        }
        x.glue(0, 1, 0, 7);
        x.glue(3, 2, 0, 6);
        due(1, x.strength(4, 0));
        due(0, x.strength(4, 1));
    }

    @Sentence("at least 0")
    @Broken(in = "int strengthAt(", from = "Math.max(0, ", to = "Math.max(-1, ")
    @Broken(in = "int strengthAt(", from = "Math.max(0, ", to = "Math.abs(")
    static void strengthIsNeverBelow0() {
        RuneSticks x = of(1, 1, 1);
        for (int stick = 0; stick < 3; stick++) {
            fill(x, stick, 2);
        }
        x.glue(0, 1, 0, 5);
        x.glue(3, 2, 0, 1);
        due(0, x.strength(4, 0));
        due(0, x.strength(4, 1));
    }

    @Sentence("Returns its strength (of a stick that is gone as it was).")
    @Broken(in = "public int strength(", from = "return asked.strengthAt(joint);",
        to = "return asked.gone ? 0 : asked.strengthAt(joint);")
    static void strengthTellsOfAStickThatIsGoneAsItWas() {
        RuneSticks x = of(2);
        x.bend(0, 20);
        fill(x, 1, 1);
        due(12, x.strength(0, 0));
        x.glue(2, 1, 0, 5);
        x.bend(3, 20);
        x.scrape(5, 0, 0);
        due(2, x.strength(3, 0));
    }

    @Sentence("Throws `IndexOutOfBoundsException` if there is no such stick, or it has no such joint")
    @Broken(in = "public int strength(", from = KNOWN, to = KNOWS_NEXT)
    @Broken(in = "public int strength(", from = KNOWN, to = KNOWS_MORE)
    @Broken(in = "public int strength(", from = KNOWN, to = KNOWS_LESS)
    static void strengthRefusesAnUnknownStick() {
        RuneSticks x = of(2, 2);
        unknownRefused(x, number -> x.strength(number, 0));
    }

    @Sentence("Throws `IndexOutOfBoundsException` if there is no such stick, or it has no such joint")
    @Broken(in = "public int strength(", from = "hasJoint(joint)", to = "hasJoint(Math.max(joint, 0))")
    @Broken(in = "public int strength(", from = "hasJoint(joint)", to = "hasJoint(joint < -1 ? 0 : joint)")
    static void strengthRefusesAJointBelow0() {
        RuneSticks x = of(2);
        refusedFor(INDEX, joint -> x.strength(0, joint), -1, -2, MIN);
    }

    @Sentence("Between a place and the next one is a joint, numbered as the first one of both.")
    @Broken(in = "boolean hasJoint(", from = "joint < places - 1", to = "joint < places")
    @Broken(in = "public int strength(", from = "hasJoint(joint)", to = "hasJoint(Math.min(joint, asked.places - 2))")
    static void strengthRefusesAJointBehindTheLastPlace() {
        RuneSticks x = of(2, 12);
        refusedFor(INDEX, joint -> x.strength(0, joint), 1, 2, 10, 11, MAX);
        refusedFor(INDEX, joint -> x.strength(1, joint), 11, 12, MAX);
    }

    @Sentence("Throws `IndexOutOfBoundsException` if there is no such stick, or it has no such joint")
    @Broken(in = "boolean hasJoint(", from = "joint < places - 1", to = "joint < Math.max(places - 1, 1)")
    static void strengthRefusesAStickOfOnePlace() {
        RuneSticks x = of(1);
        refusedFor(INDEX, joint -> x.strength(0, joint), 0, -1, 1);
    }

    // ---- Promise 11: count

    @Sentence("0 sticks that are there, 1 sticks in all, also those that are gone")
    @Broken(in = "private int total(", from = "return howManyThere();", to = "return made;")
    static void countTellsSticksThatAreThere() {
        RuneSticks x = someGone();
        due(4, x.count(0));
        RuneSticks y = twelveThere(12);
        due(12, y.count(0));
    }

    @Sentence("0 sticks that are there, 1 sticks in all, also those that are gone")
    @Broken(in = "private int total(", from = "return made;", to = "return howManyThere();")
    static void countTellsSticksInAll() {
        due(7, someGone().count(1));
        due(40, inAll(40).count(1));
    }

    @Sentence("2 runes on those that are there")
    @Broken(in = "private int sumThere(", from = "thereOrNull(number)", to = "stickOrNull(number)")
    static void countTellsRunesOnThoseThatAreThere() {
        RuneSticks x = someGone();
        due(3 + 3 + 12 + 6, x.count(2));
        x.scrape(6, 0, 0);
        x.carve(1, 0, 0, 0);
        due(3 + 3 + 12 + 5, x.count(2));
    }

    @Sentence("2 runes on those that are there")
    @Broken(in = "private int sumThere(", from = "return sum;", to = "return (byte) sum;")
    @Broken(in = "private int sumThere(", from = "return sum;", to = "return Math.min(sum, 431);")
    static void countTellsUpTo432Runes() {
        RuneSticks x = twelveThere(12);
        for (int stick = 0; stick < 12; stick++) {
            fill(x, stick, 0);
        }
        due(12 * 36, x.count(2));
    }

    @Sentence("3 breaks")
    @Broken(in = "private int total(", from = "return breaks;", to = "return Math.max(0, made - howManyThere());")
    static void countTellsBreaks() {
        RuneSticks x = of(3, 1);
        due(0, x.count(3));
        x.bend(0, 20);
        due(1, x.count(3));
        x.bend(3, 20);
        due(2, x.count(3));
        x.glue(1, 2, 0, 5);
        x.bend(6, 1);
        due(2, x.count(3));
    }

    @Sentence("4 glued joints of those that are there")
    @Broken(in = "private int total(", from = "return sumThere(FACT_GLUED_JOINTS);",
        to = "return made - 3 - 2 * breaks;")
    static void countTellsGluedJointsOfThoseThatAreThere() {
        RuneSticks x = of(1, 1, 1);
        x.glue(0, 1, 0, 5);
        due(1, x.count(4));
        x.glue(3, 2, 0, 4);
        due(2, x.count(4));
        x.bend(4, 5);
        due(1, x.count(4));
        x.bend(5, 6);
        due(0, x.count(4));
    }

    @Sentence("5 places of those that are there")
    @Broken(in = "private int sumThere(", from = "thereOrNull(number)", to = "stickOrNull(number)")
    static void countTellsPlacesOfThoseThatAreThere() {
        RuneSticks x = someGone();
        due(1 + 1 + 4 + 2, x.count(5));
        due(144, twelveThere(12).count(5));
    }

    @Sentence("6 pairs of sticks that are there and fit, the first one and the second one")
    @Broken(in = "private int fittingPairs() {", from = "thereOrNull(number)", to = "stickOrNull(number)")
    @Broken(in = "private int fittingBehind(", from = "thereOrNull(number)", to = "stickOrNull(number)")
    static void countTellsPairsThatAreThereBoth() {
        RuneSticks x = of(4);
        x.bend(0, 20);
        due(1, x.count(6));
        x.bend(2, 20);
        due(2, x.count(6));
        x.bend(4, 20);
        due(3, x.count(6));
        x.glue(3, 1, 0, 5);
        // 7 ends with break 0, with which but itself begins; 5 begins with break 1, with which none ends now.
        due(0, x.stick(7, 5));
        due(1, x.count(6));
        x.glue(5, 7, 0, 5);
        due(1, x.stick(8, 4));
        due(0, x.stick(8, 5));
        due(0, x.count(6));
    }

    @Sentence("6 pairs of sticks that are there and fit, the first one and the second one")
    @Broken(in = "private int fittingPairs() {", from = "return pairs;", to = "return pairs * 2;")
    @Broken(in = "boolean fitsAheadOf(", from = "this != next && ", to = "")
    @Broken(in = "boolean fitsAheadOf(", from = "endBreak != NONE && ", to = "")
    static void countTellsEachPairOnceAndNoStickWithItself() {
        RuneSticks x = of(2, 3, 1);
        due(0, x.count(6));
        x.bend(0, 20);
        due(1, x.count(6));
        x.glue(4, 3, 0, 5);
        due(0, x.count(6));
    }

    @Sentence("Throws `IndexOutOfBoundsException` if what is not 0 to 6")
    @Broken(in = "public int count(", from = "what < 0", to = "what < -1")
    @Broken(in = "public int count(", from = "what < 0", to = "what == -1")
    static void countRefusesWhatBelow0() {
        RuneSticks x = of(1);
        refusedFor(INDEX, x::count, -1, -2, MIN);
    }

    @Sentence("Throws `IndexOutOfBoundsException` if what is not 0 to 6")
    @Broken(in = "public int count(", from = "what >= COUNTS", to = "what > COUNTS")
    @Broken(in = "public int count(", from = "what >= COUNTS", to = "what == COUNTS")
    static void countRefusesWhatAbove6() {
        RuneSticks x = of(1);
        refusedFor(INDEX, x::count, 7, 8, MAX);
    }

    // ---- Promise 12: fits

    @Sentence("Returns whether they are there both, and fit, the first one ahead of the second one.")
    @Broken(in = "public boolean fits(", from = "first.fitsAheadOf(second)",
        to = "(first.fitsAheadOf(second) || second.fitsAheadOf(first))")
    @Broken(in = "public boolean fits(", from = "first.fitsAheadOf(second)", to = "second.fitsAheadOf(first)")
    static void fitsTheFirstAheadOfTheSecondOnly() {
        RuneSticks x = of(2);
        x.bend(0, 20);
        due(true, x.fits(1, 2));
        due(false, x.fits(2, 1));
    }

    @Sentence("Returns whether they are there both, and fit")
    @Broken(in = "public boolean fits(", from = "!first.gone && ", to = "")
    static void fitsNotIfTheFirstOneIsGone() {
        RuneSticks x = of(4);
        x.carve(0, 0, 2, 1);
        x.bend(0, 20);
        x.bend(1, 20);
        due(1, x.stick(1, 6));
        due(false, x.fits(1, 2));
        due(true, x.fits(4, 2));
    }

    @Sentence("Returns whether they are there both, and fit")
    @Broken(in = "public boolean fits(", from = "!second.gone && ", to = "")
    static void fitsNotIfTheSecondOneIsGone() {
        RuneSticks x = of(3);
        x.bend(0, 20);
        x.bend(2, 20);
        due(1, x.stick(2, 6));
        due(false, x.fits(1, 2));
        due(true, x.fits(1, 3));
    }

    @Sentence("(no stick fits itself)")
    @Broken(in = "boolean fitsAheadOf(", from = "this != next && ", to = "")
    static void fitsNotItself() {
        RuneSticks x = of(2);
        x.bend(0, 20);
        x.glue(2, 1, 0, 5);
        due(0, x.stick(3, 4));
        due(0, x.stick(3, 5));
        due(false, x.fits(3, 3));
    }

    @Sentence("if the end of the first one and the beginning of the second one are of the same break")
    @Broken(in = "boolean fitsAheadOf(", from = "endBreak != NONE && ", to = "")
    static void fitsNotWithoutABreak() {
        RuneSticks x = of(1, 1);
        due(false, x.fits(0, 1));
        due(false, x.fits(1, 0));
    }

    @Sentence("if the end of the first one and the beginning of the second one are of the same break")
    @Broken(in = "boolean fitsAheadOf(", from = "endBreak == next.beginBreak", to = "next.beginBreak != NONE")
    static void fitsNotWithAnotherBreak() {
        RuneSticks x = of(2, 2);
        x.bend(0, 20);
        x.bend(1, 20);
        due(false, x.fits(2, 5));
        due(false, x.fits(4, 3));
        due(true, x.fits(2, 3));
        due(true, x.fits(4, 5));
    }

    @Sentence("Throws `IndexOutOfBoundsException` if there is no such stick")
    @Broken(in = "public boolean fits(", from = KNOWN, to = KNOWS_NEXT)
    @Broken(in = "public boolean fits(", from = KNOWN, to = KNOWS_MORE)
    @Broken(in = "public boolean fits(", from = KNOWN, to = KNOWS_LESS)
    static void fitsRefusesAnUnknownFirstStick() {
        RuneSticks x = of(1, 1);
        unknownRefused(x, number -> x.fits(number, 1));
    }

    @Sentence("Throws `IndexOutOfBoundsException` if there is no such stick")
    @Broken(in = "public boolean fits(", from = KNOWN_OTHER, to = KNOWS_NEXT_OTHER)
    @Broken(in = "public boolean fits(", from = KNOWN_OTHER, to = KNOWS_MORE_OTHER)
    @Broken(in = "public boolean fits(", from = KNOWN_OTHER, to = KNOWS_LESS_OTHER)
    static void fitsRefusesAnUnknownSecondStick() {
        RuneSticks x = of(1, 1);
        unknownRefused(x, number -> x.fits(0, number));
    }
}
