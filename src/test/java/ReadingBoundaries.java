/** Promises 13 to 16: size, reads, has, rhyme, and what the terms say of readings and rhymes. */
final class ReadingBoundaries extends Checks {
    private static void reading(RuneSticks x, int stick, int turn, int... want) {
        due(want.length, x.size(stick, turn));
        for (int index = 0; index < want.length; index++) {
            due(want[index], x.reads(stick, turn, index));
        }
        refused(ARGUMENT, () -> x.reads(stick, turn, want.length));
    }

    /** A stick with rune 3 * place + side at each of its 8 places. */
    private static RuneSticks eightPlaces() {
        RuneSticks x = of(8);
        for (int place = 0; place < 8; place++) {
            for (int side = 0; side < 3; side++) {
                x.carve(0, side, place, 3 * place + side);
            }
        }
        return x;
    }

    // ---- Terms: readings

    @Sentence("at the place p on the side (the side that is up + p * turn), by the remainder of 3, from place 0 on")
    @Broken(in = "int runeRead(", from = "(sideUp + place * turn) % SIDES", to = "Math.min(sideUp + place * turn, 2)")
    @Broken(in = "int runeRead(", from = "(sideUp + place * turn) % SIDES",
        to = "(sideUp + place * turn > 2 ? 0 : sideUp + place * turn)")
    @Broken(in = "int runeRead(", from = "(sideUp + place * turn) % SIDES", to = "(sideUp + turn) % SIDES")
    @Broken(in = "int runeRead(", from = "(sideUp + place * turn) % SIDES",
        to = "(sideUp + (place + 1) * turn) % SIDES")
    @Broken(in = "int runeRead(", from = "(sideUp + place * turn) % SIDES", to = "(place * turn) % SIDES")
    @Broken(in = "int runeRead(", from = "(sideUp + place * turn) % SIDES",
        to = "(sideUp + place * (3 - turn)) % SIDES")
    static void readingGoesRoundTheSides() {
        RuneSticks x = eightPlaces();
        reading(x, 0, 0, 0, 3, 6, 9, 12, 15, 18, 21);
        reading(x, 0, 1, 0, 4, 8, 9, 13, 17, 18, 22);
        reading(x, 0, 2, 0, 5, 7, 9, 14, 16, 18, 23);
        x.roll(0, 1);
        reading(x, 0, 0, 1, 4, 7, 10, 13, 16, 19, 22);
        reading(x, 0, 1, 1, 5, 6, 10, 14, 15, 19, 23);
        reading(x, 0, 2, 1, 3, 8, 10, 12, 17, 19, 21);
        x.roll(0, 1);
        reading(x, 0, 0, 2, 5, 8, 11, 14, 17, 20, 23);
        reading(x, 0, 1, 2, 3, 7, 11, 12, 16, 20, 21);
        reading(x, 0, 2, 2, 4, 6, 11, 13, 15, 20, 22);
    }

    @Sentence("places without a rune on this side are passed over")
    @Broken(in = "int runeOfReadingOrNone(", from = "passed++;\n                }", to = "}\n passed++;")
    @Broken(in = "int readingLength(", from = "if (runeRead(sideUp, turn, place) != NONE)",
        to = "if (runesAtPlace(place) > 0)")
    static void readingPassesOverPlacesWithoutARuneOnItsSide() {
        RuneSticks x = of(6);
        carve(x, 0, 0, -1, 5, -1, -1, 0, -1);
        carve(x, 0, 1, 9, -1, 9, 9, -1, 9);
        reading(x, 0, 0, 5, 0);
        reading(x, 0, 1);
        reading(x, 0, 2, 9, 9);
    }

    @Sentence("Each has 1 to 12 places")
    @Broken(in = "int readingLength(", from = "place < places", to = "place < places - 1")
    @Broken(in = "int readingLength(", from = "int place = 0", to = "int place = 1")
    @Broken(in = "int runeOfReadingOrNone(", from = "place < places", to = "place < places - 1")
    @Broken(in = "int runeOfReadingOrNone(", from = "int place = 0", to = "int place = 1")
    static void readingHas1RuneOr12Runes() {
        RuneSticks x = of(1, 12);
        x.carve(0, 0, 0, 23);
        carve(x, 1, 0, 0, 2, 4, 6, 8, 10, 12, 14, 16, 18, 20, 22);
        reading(x, 0, 0, 23);
        reading(x, 0, 1, 23);
        reading(x, 0, 2, 23);
        reading(x, 1, 0, 0, 2, 4, 6, 8, 10, 12, 14, 16, 18, 20, 22);
    }

    // ---- Promise 13: size

    @Sentence("Returns how many runes it reads.")
    @Broken(in = "public int size(", from = "return read.readingLength(read.up, turn);",
        to = "return Math.max(1, read.readingLength(read.up, turn));")
    static void sizeIs0WithoutRunesOnItsWay() {
        RuneSticks x = of(12);
        for (int turn = 0; turn < 3; turn++) {
            due(0, x.size(0, turn));
        }
        carve(x, 0, 1, 1, 1, 1, 1, 1, 1, 1, 1, 1, 1, 1, 1);
        due(0, x.size(0, 0));
    }

    @Sentence("Returns how many runes it reads.")
    @Broken(in = "public int size(", from = "return read.readingLength(read.up, turn);",
        to = "return Math.min(11, read.readingLength(read.up, turn));")
    static void sizeIsUpTo12() {
        RuneSticks x = of(12);
        fill(x, 0, 0);
        for (int turn = 0; turn < 3; turn++) {
            due(12, x.size(0, turn));
        }
    }

    @Sentence("A stick is read with a turn, 0 to 2")
    @Broken(in = "public int size(", from = TURN, to = "needTurn(turn - 1)")
    @Broken(in = "public int size(", from = TURN, to = "needTurn(turn + 1)")
    static void sizeTakesTheTurns0To2() {
        RuneSticks x = of(3);
        x.carve(0, 0, 0, 1);
        x.carve(0, 0, 1, 1);
        x.carve(0, 2, 1, 1);
        x.carve(0, 1, 2, 1);
        due(2, x.size(0, 0));
        due(1, x.size(0, 1));
        due(3, x.size(0, 2));
    }

    @Sentence("(sticks that are gone read as they did)")
    @Broken(in = "public int size(", from = "return read.readingLength(read.up, turn);",
        to = "return read.gone ? 0 : read.readingLength(read.up, turn);")
    static void sizeOfAStickThatIsGoneIsAsItWas() {
        RuneSticks x = someGone();
        x.scrape(1, 0, 0);
        x.scrape(5, 0, 0);
        for (int gone : GONE) {
            due(2, x.size(gone, 0));
            due(2, x.size(gone, 2));
        }
    }

    @Sentence("Throws `IndexOutOfBoundsException` if there is no such stick")
    @Broken(in = "public int size(", from = KNOWN, to = KNOWS_NEXT)
    @Broken(in = "public int size(", from = KNOWN, to = KNOWS_MORE)
    @Broken(in = "public int size(", from = KNOWN, to = KNOWS_LESS)
    static void sizeRefusesAnUnknownStick() {
        RuneSticks x = of(1, 1);
        unknownRefused(x, number -> x.size(number, 0));
    }

    @Sentence("Throws `IllegalArgumentException` if turn is not 0 to 2")
    @Broken(in = "public int size(", from = TURN, to = "needTurn(Math.max(turn, 0))")
    @Broken(in = "public int size(", from = TURN, to = "needTurn(turn < -1 ? 0 : turn)")
    static void sizeRefusesATurnBelow0() {
        RuneSticks x = of(12);
        refusedFor(ARGUMENT, turn -> x.size(0, turn), -1, -2, -3, MIN);
    }

    @Sentence("Throws `IllegalArgumentException` if turn is not 0 to 2")
    @Broken(in = "public int size(", from = TURN, to = "needTurn(Math.min(turn, 2))")
    @Broken(in = "public int size(", from = TURN, to = "needTurn(turn > 3 ? 0 : turn)")
    static void sizeRefusesATurnAbove2() {
        RuneSticks x = of(12);
        refusedFor(ARGUMENT, turn -> x.size(0, turn), 3, 4, MAX);
    }

    // ---- Promise 14: reads

    @Sentence("the number of a rune in its reading, from 0")
    @Broken(in = "public int reads(", from = "runeOfReadingOrNone(turn, index)",
        to = "runeOfReadingOrNone(turn, index - 1)")
    @Broken(in = "public int reads(", from = "rune == NONE",
        to = "rune == NONE || index == read.readingLength(read.up, turn) - 1")
    @Broken(in = "public int reads(", from = "rune == NONE", to = "rune <= 0")
    static void readsTheFirstAndTheLastRune() {
        RuneSticks x = carved(-1, 23, 5, -1, 0, -1);
        due(23, x.reads(0, 0, 0));
        due(5, x.reads(0, 0, 1));
        due(0, x.reads(0, 0, 2));
    }

    @Sentence("A stick is read with a turn, 0 to 2")
    @Broken(in = "public int reads(", from = TURN, to = "needTurn(turn - 1)")
    @Broken(in = "public int reads(", from = TURN, to = "needTurn(turn + 1)")
    static void readsWithTheTurns0To2() {
        RuneSticks x = eightPlaces();
        due(3, x.reads(0, 0, 1));
        due(4, x.reads(0, 1, 1));
        due(5, x.reads(0, 2, 1));
    }

    @Sentence("(sticks that are gone read as they did)")
    @Broken(in = "public int reads(", from = "rune == NONE", to = "rune == NONE || read.gone")
    static void readsAStickThatIsGoneAsItDid() {
        RuneSticks x = someGone();
        x.carve(2, 0, 0, 9);
        x.carve(5, 0, 1, 9);
        for (int gone : GONE) {
            due(4, x.reads(gone, 0, 1));
        }
    }

    @Sentence("Throws `IndexOutOfBoundsException` if there is no such stick")
    @Broken(in = "public int reads(", from = KNOWN, to = KNOWS_NEXT)
    @Broken(in = "public int reads(", from = KNOWN, to = KNOWS_MORE)
    @Broken(in = "public int reads(", from = KNOWN, to = KNOWS_LESS)
    static void readsRefusesAnUnknownStick() {
        RuneSticks x = carved(1);
        unknownRefused(x, number -> x.reads(number, 0, 0));
    }

    @Sentence("Throws `IllegalArgumentException` if turn is not 0 to 2, or there is no such rune in the reading")
    @Broken(in = "public int reads(", from = TURN, to = "needTurn(Math.max(turn, 0))")
    @Broken(in = "public int reads(", from = TURN, to = "needTurn(turn < -1 ? 0 : turn)")
    static void readsRefusesATurnBelow0() {
        RuneSticks x = eightPlaces();
        refusedFor(ARGUMENT, turn -> x.reads(0, turn, 0), -1, -2, -3, MIN);
    }

    @Sentence("Throws `IllegalArgumentException` if turn is not 0 to 2, or there is no such rune in the reading")
    @Broken(in = "public int reads(", from = TURN, to = "needTurn(Math.min(turn, 2))")
    @Broken(in = "public int reads(", from = TURN, to = "needTurn(turn > 3 ? 0 : turn)")
    static void readsRefusesATurnAbove2() {
        RuneSticks x = eightPlaces();
        refusedFor(ARGUMENT, turn -> x.reads(0, turn, 0), 3, 4, MAX);
    }

    @Sentence("Throws `IllegalArgumentException` if turn is not 0 to 2, or there is no such rune in the reading")
    @Broken(in = "public int reads(", from = "runeOfReadingOrNone(turn, index)",
        to = "runeOfReadingOrNone(turn, Math.max(index, 0))")
    @Broken(in = "public int reads(", from = "runeOfReadingOrNone(turn, index)",
        to = "runeOfReadingOrNone(turn, index < -1 ? 0 : index)")
    static void readsRefusesAnIndexBelow0() {
        RuneSticks x = carved(1, 2);
        refusedFor(ARGUMENT, index -> x.reads(0, 0, index), -1, -2, MIN);
    }

    @Sentence("Throws `IllegalArgumentException` if turn is not 0 to 2, or there is no such rune in the reading")
    @Broken(in = "public int reads(", from = "runeOfReadingOrNone(turn, index)",
        to = "runeOfReadingOrNone(turn, Math.min(index, Math.max(read.readingLength(read.up, turn) - 1, 0)))")
    @Broken(in = "public int reads(", from = "rune == NONE", to = "rune == NONE && index >= read.places")
    static void readsRefusesAnIndexBehindTheLastRune() {
        RuneSticks x = of(12, 12);
        carve(x, 0, 0, 1, -1, 2);
        fill(x, 1, 3);
        refusedFor(ARGUMENT, index -> x.reads(0, 0, index), 2, 3, 11, 12, MAX);
        refusedFor(ARGUMENT, index -> x.reads(1, 1, index), 12, 13, MAX);
    }

    @Sentence("Throws `IllegalArgumentException` if turn is not 0 to 2, or there is no such rune in the reading")
    @Broken(in = "public int reads(", from = "rune == NONE", to = "rune == NONE && read.runesInAll() > 0")
    static void readsRefusesEachIndexOfAnEmptyReading() {
        RuneSticks x = of(1);
        refusedFor(ARGUMENT, index -> x.reads(0, 0, index), 0, 1, -1);
    }

    // ---- Promise 15: has

    @Sentence("Returns in how many of its nine readings, from each side up with each turn")
    @Broken(in = "public int has(", from = "up < SIDES", to = "up < SIDES - 1")
    @Broken(in = "public int has(", from = "turn < TURNS", to = "turn < TURNS - 1")
    @Broken(in = "public int has(", from = "up = 0", to = "up = 1")
    @Broken(in = "public int has(", from = "turn = 0", to = "turn = 1")
    static void hasCountsUpTo9Readings() {
        RuneSticks x = of(2, 2);
        fill(x, 0, 5);
        due(9, x.has(0, 5, 5));
        x.roll(0, 2);
        due(9, x.has(0, 5, 5));
        x.carve(1, 2, 0, 5);
        x.carve(1, 1, 1, 6);
        due(1, x.has(1, 5, 6));
        x.carve(1, 0, 1, 6);
        due(2, x.has(1, 5, 6));
        x.carve(1, 2, 1, 6);
        due(3, x.has(1, 5, 6));
    }

    @Sentence("Returns in how many of its nine readings, from each side up with each turn")
    @Broken(in = "public int has(", from = "readings++;", to = "readings += read.readingLength(up, turn) - 1;")
    static void hasCountsAReadingOnceThoughItHasThePairTwice() {
        due(1, carved(5, 5, 5).has(0, 5, 5));
        RuneSticks x = of(12);
        fill(x, 0, 5);
        due(9, x.has(0, 5, 5));
    }

    @Sentence("the first rune is read somewhere, and the second one directly behind it")
    @Broken(in = "boolean readsPair(", from = "place < places", to = "place < places - 1")
    @Broken(in = "boolean readsPair(", from = "int place = 0", to = "int place = 1")
    static void hasFindsAPairAtTheBeginningAndAtTheEnd() {
        RuneSticks x = of(12);
        carve(x, 0, 0, 1, 2, 3, 4, 5, 6, 7, 8, 9, 10, 11, 12);
        due(1, x.has(0, 1, 2));
        due(1, x.has(0, 6, 7));
        due(1, x.has(0, 11, 12));
    }

    @Sentence("the first rune is read somewhere, and the second one directly behind it")
    @Broken(in = "boolean readsPair(", from = "before = now;", to = "before = before == rune ? before : now;")
    @Broken(in = "boolean readsPair(", from = "if (now != NONE) {",
        to = "if (now == NONE) { before = NONE; } if (now != NONE) {")
    static void hasPassesOverFreePlacesButOverNoRune() {
        due(1, carved(1, -1, 2).has(0, 1, 2));
        due(0, carved(1, 7, 2).has(0, 1, 2));
    }

    @Sentence("the first rune is read somewhere, and the second one directly behind it")
    @Broken(in = "boolean readsPair(", from = "int before = NONE;",
        to = "int before = runeRead(sideUp, turn, placeReadUpTo(sideUp, turn, places - 1));")
    @Broken(in = "boolean readsPair(", from = "before == rune && now == next",
        to = "(before == rune && now == next || before == next && now == rune)")
    static void hasNotTheFirstRuneBehindTheLastOne() {
        RuneSticks x = carved(1, 2, 3);
        due(0, x.has(0, 3, 1));
        due(0, x.has(0, 2, 1));
        due(0, carved(5).has(0, 5, 5));
    }

    @Sentence("the first rune is read somewhere, and the second one directly behind it")
    @Broken(in = "public int has(", from = "int readings = 0;",
        to = "int readings = 0; if (read.runesInAll() == 0) { return 9; }")
    static void hasNothingWithoutRunes() {
        RuneSticks x = of(12, 1);
        due(0, x.has(0, 0, 0));
        due(0, x.has(1, 23, 23));
    }

    @Sentence("Runes have numbers, 0 to 23")
    @Broken(in = "public int has(", from = "needRune(rune)", to = "needRune(rune - 1)")
    @Broken(in = "public int has(", from = "needRune(rune)", to = "needRune(rune + 1)")
    @Broken(in = "public int has(", from = "needRune(next)", to = "needRune(next - 1)")
    @Broken(in = "public int has(", from = "needRune(next)", to = "needRune(next + 1)")
    static void hasTakesTheRunes0And23() {
        RuneSticks x = carved(0, 23, 0);
        due(1, x.has(0, 0, 23));
        due(1, x.has(0, 23, 0));
        due(0, x.has(0, 0, 0));
        due(0, x.has(0, 23, 23));
    }

    @Sentence("(sticks that are gone read as they did)")
    @Broken(in = "public int has(", from = "return readings;", to = "return read.gone ? 0 : readings;")
    static void hasOfAStickThatIsGoneIsAsItWas() {
        RuneSticks x = someGone();
        x.scrape(5, 0, 0);
        for (int gone : GONE) {
            due(9, x.has(gone, 4, 4));
        }
    }

    @Sentence("Throws `IndexOutOfBoundsException` if there is no such stick")
    @Broken(in = "public int has(", from = KNOWN, to = KNOWS_NEXT)
    @Broken(in = "public int has(", from = KNOWN, to = KNOWS_MORE)
    @Broken(in = "public int has(", from = KNOWN, to = KNOWS_LESS)
    static void hasRefusesAnUnknownStick() {
        RuneSticks x = of(1, 1);
        unknownRefused(x, number -> x.has(number, 0, 0));
    }

    @Sentence("Throws `IllegalArgumentException` if rune or next is not 0 to 23")
    @Broken(in = "public int has(", from = "needRune(rune)", to = "needRune(Math.max(rune, 0))")
    @Broken(in = "public int has(", from = "needRune(rune)", to = "needRune(rune < -1 ? 0 : rune)")
    static void hasRefusesARuneBelow0() {
        RuneSticks x = carved(0, 0);
        refusedFor(ARGUMENT, rune -> x.has(0, rune, 0), -1, -2, MIN);
    }

    @Sentence("Throws `IllegalArgumentException` if rune or next is not 0 to 23")
    @Broken(in = "public int has(", from = "needRune(rune)", to = "needRune(Math.min(rune, 23))")
    @Broken(in = "public int has(", from = "needRune(rune)", to = "needRune(rune > 24 ? 0 : rune)")
    static void hasRefusesARuneAbove23() {
        RuneSticks x = carved(0, 0);
        refusedFor(ARGUMENT, rune -> x.has(0, rune, 0), 24, 25, MAX);
    }

    @Sentence("Throws `IllegalArgumentException` if rune or next is not 0 to 23")
    @Broken(in = "public int has(", from = "needRune(next)", to = "needRune(Math.max(next, 0))")
    @Broken(in = "public int has(", from = "needRune(next)", to = "needRune(next < -1 ? 0 : next)")
    static void hasRefusesANextRuneBelow0() {
        RuneSticks x = carved(0, 0);
        refusedFor(ARGUMENT, next -> x.has(0, 0, next), -1, -2, MIN);
    }

    @Sentence("Throws `IllegalArgumentException` if rune or next is not 0 to 23")
    @Broken(in = "public int has(", from = "needRune(next)", to = "needRune(Math.min(next, 23))")
    @Broken(in = "public int has(", from = "needRune(next)", to = "needRune(next > 24 ? 0 : next)")
    static void hasRefusesANextRuneAbove23() {
        RuneSticks x = carved(0, 0);
        refusedFor(ARGUMENT, next -> x.has(0, 0, next), 24, 25, MAX);
    }

    // ---- Promise 16: rhyme, and what the terms say of it

    private static int rhymeOf(int rune, int other) {
        RuneSticks x = carved(rune);
        add(x, other);
        return x.rhyme(0, 1, 0);
    }

    @Sentence("are of three families: 0 to 7, 8 to 15, and 16 to 23")
    @Broken(in = "private static final int FAMILY", from = "= 8", to = "= 7")
    @Broken(in = "private static final int FAMILY", from = "= 8", to = "= 9")
    @Broken(in = "private static int pairWorth(", from = "other / FAMILY", to = "(other == 16 ? 1 : other / FAMILY)")
    @Broken(in = "private static int pairWorth(", from = "other / FAMILY", to = "(other == 23 ? 3 : other / FAMILY)")
    static void rhymeKnowsTheBordersOfTheFamilies() {
        due(1, rhymeOf(0, 7));
        due(0, rhymeOf(7, 8));
        due(0, rhymeOf(8, 7));
        due(1, rhymeOf(8, 15));
        due(0, rhymeOf(15, 16));
        due(0, rhymeOf(16, 15));
        due(1, rhymeOf(16, 23));
        due(0, rhymeOf(0, 8));
        due(0, rhymeOf(23, 7));
        for (int rune = 0; rune < 24; rune++) {
            due(2, rhymeOf(rune, rune));
        }
    }

    @Sentence("from their last runes on backwards, pair by pair, 2 for the same rune, 1 for two runes of one family, added")
    @Broken(in = "private static int rhymeOf(", from = "sum += worth;", to = "sum = Math.max(sum, worth);")
    @Broken(in = "private static int pairWorth(", from = "return 2;", to = "return 1;")
    @Broken(in = "private static int rhymeOf(", from = "one.places - 1", to = "one.places - 2")
    @Broken(in = "private static int rhymeOf(", from = "two.places - 1", to = "two.places - 2")
    static void rhymeAddsFromTheLastRunesOn() {
        RuneSticks x = carved(20, 1, 9, 3);
        add(x, 5, 1, 15, -1, 3);
        due(2 + 1 + 2, x.rhyme(0, 1, 0));
        due(2 + 1 + 2, x.rhyme(1, 0, 0));
    }

    @Sentence("till a pair of two families, or one of both readings is at its end")
    @Broken(in = "private static int rhymeOf(", from = "if (worth == 0) {\n                return sum;\n            }",
        to = "")
    static void rhymeEndsWithAPairOfTwoFamilies() {
        RuneSticks x = carved(1, 1, 1, 2);
        add(x, 1, 1, 8, 2);
        due(2, x.rhyme(0, 1, 0));
        due(2, x.rhyme(1, 0, 0));
    }

    @Sentence("till a pair of two families, or one of both readings is at its end")
    @Broken(in = "private static int rhymeOf(", from = "placeOfOne != NONE && ", to = "")
    @Broken(in = "private static int rhymeOf(", from = " && placeOfTwo != NONE", to = "")
    static void rhymeEndsWithTheShorterReading() {
        RuneSticks x = carved(1, 2, 3, 4);
        add(x, -1, 3, 4);
        add(x, 4);
        due(4, x.rhyme(0, 1, 0));
        due(4, x.rhyme(1, 0, 0));
        due(2, x.rhyme(0, 2, 0));
        due(2, x.rhyme(2, 0, 0));
    }

    @Sentence("till a pair of two families, or one of both readings is at its end")
    @Broken(in = "private static int rhymeOf(", from = "placeOfOne != NONE && ", to = "")
    @Broken(in = "private static int rhymeOf(", from = " && placeOfTwo != NONE", to = "")
    static void rhymeIs0WithAnEmptyReading() {
        RuneSticks x = of(2, 2);
        carve(x, 1, 0, 0, 7);
        due(0, x.rhyme(0, 1, 0));
        due(0, x.rhyme(1, 0, 0));
        due(0, x.rhyme(0, 0, 0));
    }

    @Sentence("Rhyme of two readings: from their last runes on backwards")
    @Broken(in = "private static int rhymeOf(", from = "pair < MOST_PLACES", to = "pair < MOST_PLACES - 1")
    static void rhymeGoesOver12Pairs() {
        RuneSticks x = of(12, 12);
        fill(x, 0, 23);
        fill(x, 1, 23);
        for (int turn = 0; turn < 3; turn++) {
            due(24, x.rhyme(0, 1, turn));
            due(24, x.rhyme(0, 0, turn));
        }
    }

    @Sentence("Returns the rhyme of their readings with this turn.")
    @Broken(in = "public int rhyme(", from = "rhymeOf(one, one.up, two, turn)", to = "rhymeOf(one, 0, two, turn)")
    @Broken(in = "private static int rhymeOf(", from = "two.placeReadUpTo(two.up,", to = "two.placeReadUpTo(0,")
    @Broken(in = "private static int rhymeOf(", from = "two.runeRead(two.up,", to = "two.runeRead(0,")
    @Broken(in = "public int rhyme(", from = "rhymeOf(one, one.up, two, turn)", to = "rhymeOf(one, one.up, two, 0)")
    static void rhymeIsOfTheSidesUpAndOfTheTurn() {
        RuneSticks x = of(2, 2);
        x.carve(0, 2, 0, 1);
        x.carve(0, 1, 1, 2);
        x.carve(1, 1, 0, 1);
        x.carve(1, 0, 1, 2);
        due(0, x.rhyme(0, 1, 0));
        x.roll(0, 2);
        x.roll(1, 1);
        due(4, x.rhyme(0, 1, 2));
        due(2, x.rhyme(0, 1, 0));
        due(2, x.rhyme(0, 1, 1));
    }

    @Sentence("A stick is read with a turn, 0 to 2")
    @Broken(in = "public int rhyme(", from = TURN, to = "needTurn(turn - 1)")
    @Broken(in = "public int rhyme(", from = TURN, to = "needTurn(turn + 1)")
    static void rhymeTakesTheTurns0To2() {
        RuneSticks x = of(2);
        x.carve(0, 0, 1, 1);
        x.carve(0, 2, 1, 1);
        x.carve(0, 2, 0, 1);
        due(2, x.rhyme(0, 0, 0));
        due(0, x.rhyme(0, 0, 1));
        due(2, x.rhyme(0, 0, 2));
    }

    @Sentence("(sticks that are gone read as they did)")
    @Broken(in = "public int rhyme(", from = "return rhymeOf", to = "return one.gone ? 0 : rhymeOf")
    @Broken(in = "public int rhyme(", from = "return rhymeOf", to = "return two.gone ? 0 : rhymeOf")
    static void rhymeOfSticksThatAreGoneIsAsItWas() {
        RuneSticks x = someGone();
        x.scrape(2, 0, 0);
        x.scrape(5, 0, 1);
        for (int gone : GONE) {
            due(4, x.rhyme(gone, 6, 0));
            due(4, x.rhyme(6, gone, 0));
            due(4, x.rhyme(gone, 0, 0));
        }
    }

    @Sentence("Throws `IndexOutOfBoundsException` if there is no such stick")
    @Broken(in = "public int rhyme(", from = KNOWN, to = KNOWS_NEXT)
    @Broken(in = "public int rhyme(", from = KNOWN, to = KNOWS_MORE)
    @Broken(in = "public int rhyme(", from = KNOWN, to = KNOWS_LESS)
    static void rhymeRefusesAnUnknownFirstStick() {
        RuneSticks x = of(1, 1);
        unknownRefused(x, number -> x.rhyme(number, 1, 0));
    }

    @Sentence("Throws `IndexOutOfBoundsException` if there is no such stick")
    @Broken(in = "public int rhyme(", from = KNOWN_OTHER, to = KNOWS_NEXT_OTHER)
    @Broken(in = "public int rhyme(", from = KNOWN_OTHER, to = KNOWS_MORE_OTHER)
    @Broken(in = "public int rhyme(", from = KNOWN_OTHER, to = KNOWS_LESS_OTHER)
    static void rhymeRefusesAnUnknownSecondStick() {
        RuneSticks x = of(1, 1);
        unknownRefused(x, number -> x.rhyme(0, number, 0));
    }

    @Sentence("Throws `IllegalArgumentException` if turn is not 0 to 2")
    @Broken(in = "public int rhyme(", from = TURN, to = "needTurn(Math.max(turn, 0))")
    @Broken(in = "public int rhyme(", from = TURN, to = "needTurn(turn < -1 ? 0 : turn)")
    static void rhymeRefusesATurnBelow0() {
        RuneSticks x = of(1, 1);
        refusedFor(ARGUMENT, turn -> x.rhyme(0, 1, turn), -1, -2, -3, MIN);
    }

    @Sentence("Throws `IllegalArgumentException` if turn is not 0 to 2")
    @Broken(in = "public int rhyme(", from = TURN, to = "needTurn(Math.min(turn, 2))")
    @Broken(in = "public int rhyme(", from = TURN, to = "needTurn(turn > 3 ? 0 : turn)")
    static void rhymeRefusesATurnAbove2() {
        RuneSticks x = of(1, 1);
        refusedFor(ARGUMENT, turn -> x.rhyme(0, 1, turn), 3, 4, MAX);
    }
}
