/** Promises 1 to 5: a new object, make, carve, scrape, roll. */
final class MakingBoundaries extends Checks {
    // ---- Promise 1: a new object

    @Sentence("Creates a place without sticks.")
    @Broken(in = "public RuneSticks() {", from = "made = 0;", to = "made = 1;")
    static void newObjectCountsNoSticks() {
        RuneSticks x = new RuneSticks();
        due(0, x.count(0));
        due(0, x.count(1));
    }

    @Sentence("Creates a place without sticks.")
    @Broken(in = "public RuneSticks() {", from = "made = 0;", to = "made = 0; sticks[0] = new Stick(1);")
    static void newObjectKnowsNoStick() {
        RuneSticks x = new RuneSticks();
        refusedFor(INDEX, number -> x.stick(number, 0), 0, 1, -1);
    }

    @Sentence("Creates a place without sticks.")
    @Broken(in = "private int breaks", from = "private int", to = "private static int")
    static void newObjectSharesNothingWithAnother() {
        RuneSticks x = of(2);
        RuneSticks y = new RuneSticks();
        x.bend(0, 20);
        for (int what = 0; what <= 6; what++) {
            due(0, y.count(what));
        }
    }

    @Sentence("An object is used for at most 512 calls after it has been made")
    @Broken(in = "public int count(", from = "public int count(int what) throws IndexOutOfBoundsException {",
        to = "private int calls; public int count(int what) { if (++calls > 510) { return 0; }")
    static void the512thCallIsAnswered() {
        RuneSticks x = of(1);
        for (int call = 2; call <= 511; call++) {
            due(1, x.count(0));
        }
        due(1, x.count(5));
    }

    // ---- Promise 2: make

    @Sentence("Each has 1 to 12 places")
    @Broken(in = "public int make(", from = "places < 1", to = "places < 2")
    static void makeTakes1Place() {
        RuneSticks x = new RuneSticks();
        due(0, x.make(1));
        due(1, x.stick(0, 0));
        due(-1, x.rune(0, 2, 0));
    }

    @Sentence("Each has 1 to 12 places")
    @Broken(in = "public int make(", from = "places > MOST_PLACES", to = "places >= MOST_PLACES")
    static void makeTakes12Places() {
        RuneSticks x = new RuneSticks();
        due(0, x.make(12));
        due(12, x.stick(0, 0));
        due(-1, x.rune(0, 2, 11));
    }

    @Sentence("Throws `IllegalArgumentException` if places is not 1 to 12")
    @Broken(in = "public int make(", from = "places < 1", to = "places < 0")
    @Broken(in = "public int make(", from = "places < 1", to = "places == 0")
    static void makeRefusesFewerThan1Place() {
        RuneSticks x = new RuneSticks();
        refusedFor(ARGUMENT, x::make, 0, -1, -2, MIN);
    }

    @Sentence("Throws `IllegalArgumentException` if places is not 1 to 12")
    @Broken(in = "public int make(", from = "places > MOST_PLACES", to = "places > MOST_PLACES + 1")
    @Broken(in = "public int make(", from = "places > MOST_PLACES", to = "places == MOST_PLACES + 1")
    static void makeRefusesMoreThan12Places() {
        RuneSticks x = new RuneSticks();
        refusedFor(ARGUMENT, x::make, 13, 14, 100, MAX);
    }

    @Sentence("at most 12 of them are there at the same time")
    @Broken(in = "public int make(", from = "howManyThere() >= MOST_THERE", to = "howManyThere() >= MOST_THERE - 1")
    static void makeMakesThe12thThere() {
        RuneSticks x = of(1, 1, 1, 1, 1, 1, 1, 1, 1, 1, 1);
        due(11, x.make(1));
        due(12, x.count(0));
    }

    @Sentence("Throws `IllegalStateException` if 12 are there, or there were 40")
    @Broken(in = "public int make(", from = "howManyThere() >= MOST_THERE", to = "howManyThere() > MOST_THERE")
    static void makeRefusesA13thThere() {
        RuneSticks x = twelveThere(1);
        refused(STATE, () -> x.make(1));
        refused(STATE, () -> x.make(12));
    }

    @Sentence("one that broke, or was glued to another one, is gone for good")
    @Broken(in = "public int make(", from = "howManyThere() >= MOST_THERE", to = "made >= MOST_THERE")
    static void makeCountsNoneThatIsGone() {
        RuneSticks x = twelveThere(1);
        x.glue(0, 1, 0, 1);
        due(13, x.make(1));
        due(12, x.count(0));
        refused(STATE, () -> x.make(1));
    }

    @Sentence("at most 40 in all")
    @Broken(in = "public int make(", from = "needNumbersLeft(1)", to = "needNumbersLeft(2)")
    static void makeMakesThe40th() {
        RuneSticks x = inAll(39);
        due(39, x.count(1));
        due(39, x.make(3));
        due(3, x.stick(39, 0));
        due(40, x.count(1));
    }

    @Sentence("Throws `IllegalStateException` if 12 are there, or there were 40")
    @Broken(in = "public int make(", from = "needNumbersLeft(1)", to = "needNumbersLeft(0)")
    static void makeRefusesA41st() {
        RuneSticks x = inAll(40);
        due(1, x.count(0));
        due(40, x.count(1));
        refused(STATE, () -> x.make(1));
        due(40, x.count(1));
    }

    @Sentence("They are numbered from 0 in the order of their making")
    @Broken(in = "private int put(", from = "return number;", to = "return made;")
    @Broken(in = "private int put(", from = "int number = made;", to = "int number = howManyThere();")
    static void makeNumbersFrom0InOrder() {
        RuneSticks x = new RuneSticks();
        due(0, x.make(3));
        due(1, x.make(2));
        due(2, x.bend(0, 20));
        due(4, x.make(1));
        due(5, x.glue(2, 4, 0, 1));
        due(6, x.make(1));
        due(7, x.count(1));
    }

    @Sentence("at each place of each side one rune, or none (at first)")
    @Broken(in = "Stick(int places) {", from = "Arrays.fill(runes, NONE)",
        to = "Arrays.fill(runes, 0, MOST_PLACES * SIDES - 1, NONE)")
    @Broken(in = "Stick(int places) {", from = "Arrays.fill(runes, NONE)",
        to = "Arrays.fill(runes, 1, MOST_PLACES * SIDES, NONE)")
    static void makeCarvesNoRune() {
        RuneSticks x = of(12);
        for (int place = 0; place < 12; place++) {
            for (int side = 0; side < 3; side++) {
                due(-1, x.rune(0, side, place));
            }
        }
        due(0, x.stick(0, 2));
    }

    @Sentence("one of the sides is up (0, at first)")
    @Broken(in = "Stick(int places) {", from = "up = 0;", to = "up = 1;")
    static void makeLaysSide0Up() {
        due(0, of(1).stick(0, 1));
    }

    // ---- Promise 3: carve

    @Sentence("Returns the rune that was there, -1 for none.")
    @Broken(in = "public int carve(", from = "return before;", to = "return before == NONE ? 0 : before;")
    static void carveReturnsMinus1ForNone() {
        RuneSticks x = carved(5, 6);
        due(-1, x.carve(0, 1, 0, 3));
        x.scrape(0, 0, 1);
        due(-1, x.carve(0, 0, 1, 3));
    }

    @Sentence("Returns the rune that was there, -1 for none.")
    @Broken(in = "public int carve(", from = "return before;", to = "return before == 0 ? NONE : before;")
    @Broken(in = "public int carve(", from = "return before;", to = "return rune;")
    static void carveReturnsTheRuneThatWasThere() {
        RuneSticks x = carved(0, 23);
        due(0, x.carve(0, 0, 0, 7));
        due(23, x.carve(0, 0, 1, 8));
        due(7, x.carve(0, 0, 0, 7));
    }

    @Sentence("Carves a rune, in the place of one that is there.")
    @Broken(in = "public int carve(", from = "carved.putRune(side, place, rune)",
        to = "carved.putRune(side, place, before == NONE ? rune : before)")
    static void carvePutsTheRuneInThePlaceOfAnother() {
        RuneSticks x = carved(5);
        x.carve(0, 0, 0, 0);
        due(0, x.rune(0, 0, 0));
        due(1, x.stick(0, 2));
    }

    @Sentence("Runes have numbers, 0 to 23")
    @Broken(in = "public int carve(", from = "needRune(rune)", to = "needRune(rune - 1)")
    static void carveTakesRune0() {
        RuneSticks x = of(1);
        x.carve(0, 0, 0, 0);
        due(0, x.rune(0, 0, 0));
        due(1, x.stick(0, 2));
    }

    @Sentence("Runes have numbers, 0 to 23")
    @Broken(in = "public int carve(", from = "needRune(rune)", to = "needRune(rune + 1)")
    static void carveTakesRune23() {
        RuneSticks x = of(1);
        x.carve(0, 0, 0, 23);
        due(23, x.rune(0, 0, 0));
    }

    @Sentence("three sides, 0 to 2")
    @Broken(in = "public int carve(", from = "needPlace(carved, side,", to = "needPlace(carved, side == 0 ? -1 : side,")
    @Broken(in = "public int carve(", from = "needPlace(carved, side,", to = "needPlace(carved, side == 2 ? 3 : side,")
    static void carveTakesTheSides0To2() {
        RuneSticks x = of(1);
        for (int side = 0; side < 3; side++) {
            x.carve(0, side, 0, 7 + side);
        }
        for (int side = 0; side < 3; side++) {
            due(7 + side, x.rune(0, side, 0));
        }
    }

    @Sentence("Each has 1 to 12 places, numbered from 0 at its beginning")
    @Broken(in = "public int carve(", from = "needPlace(carved, side, place",
        to = "needPlace(carved, side, place == 0 ? -1 : place")
    @Broken(in = "public int carve(", from = "needPlace(carved, side, place",
        to = "needPlace(carved, side, place == carved.places - 1 ? 12 : place")
    static void carveTakesTheFirstAndTheLastPlace() {
        RuneSticks x = of(12, 2);
        x.carve(0, 2, 0, 1);
        x.carve(0, 2, 11, 2);
        x.carve(1, 0, 1, 3);
        due(1, x.rune(0, 2, 0));
        due(2, x.rune(0, 2, 11));
        due(3, x.rune(1, 0, 1));
    }

    @Sentence("Throws `IndexOutOfBoundsException` if there is no such stick, side is not 0 to 2, or it has no such place")
    @Broken(in = "public int carve(", from = KNOWN, to = KNOWS_NEXT)
    @Broken(in = "public int carve(", from = KNOWN, to = KNOWS_MORE)
    @Broken(in = "public int carve(", from = KNOWN, to = KNOWS_LESS)
    static void carveRefusesAnUnknownStick() {
        RuneSticks x = of(1, 1);
        unknownRefused(x, number -> x.carve(number, 0, 0, 0));
    }

    @Sentence("Throws `IndexOutOfBoundsException` if there is no such stick, side is not 0 to 2, or it has no such place")
    @Broken(in = "public int carve(", from = "needPlace(carved, side,", to = "needPlace(carved, Math.max(side, 0),")
    @Broken(in = "public int carve(", from = "needPlace(carved, side,", to = "needPlace(carved, side < -1 ? 0 : side,")
    static void carveRefusesASideBelow0() {
        RuneSticks x = of(2);
        refusedFor(INDEX, side -> x.carve(0, side, 1, 0), -1, -2, MIN);
    }

    @Sentence("Throws `IndexOutOfBoundsException` if there is no such stick, side is not 0 to 2, or it has no such place")
    @Broken(in = "public int carve(", from = "needPlace(carved, side,", to = "needPlace(carved, Math.min(side, 2),")
    @Broken(in = "public int carve(", from = "needPlace(carved, side,", to = "needPlace(carved, side > 3 ? 0 : side,")
    static void carveRefusesASideAbove2() {
        RuneSticks x = of(2);
        refusedFor(INDEX, side -> x.carve(0, side, 0, 0), 3, 4, MAX);
    }

    @Sentence("Throws `IndexOutOfBoundsException` if there is no such stick, side is not 0 to 2, or it has no such place")
    @Broken(in = "public int carve(", from = "needPlace(carved, side, place",
        to = "needPlace(carved, side, Math.max(place, 0)")
    @Broken(in = "public int carve(", from = "needPlace(carved, side, place",
        to = "needPlace(carved, side, place < -1 ? 0 : place")
    static void carveRefusesAPlaceBelow0() {
        RuneSticks x = of(2);
        refusedFor(INDEX, place -> x.carve(0, 1, place, 0), -1, -2, MIN);
    }

    @Sentence("Throws `IndexOutOfBoundsException` if there is no such stick, side is not 0 to 2, or it has no such place")
    @Broken(in = "public int carve(", from = "needPlace(carved, side, place",
        to = "needPlace(carved, side, place == carved.places ? 0 : place")
    @Broken(in = "public int carve(", from = "needPlace(carved, side, place",
        to = "needPlace(carved, side, place > carved.places ? 0 : place")
    @Broken(in = "boolean hasPlace(", from = "place < places &&", to = "")
    static void carveRefusesAPlaceBehindTheLast() {
        RuneSticks x = of(1, 12);
        refusedFor(INDEX, place -> x.carve(0, 0, place, 0), 1, 2, 11, 12, MAX);
        refusedFor(INDEX, place -> x.carve(1, 0, place, 0), 12, 13, MAX);
    }

    @Sentence("Throws `IllegalArgumentException` if rune is not 0 to 23")
    @Broken(in = "public int carve(", from = "needRune(rune)", to = "needRune(Math.max(rune, 0))")
    @Broken(in = "public int carve(", from = "needRune(rune)", to = "needRune(rune < -1 ? 0 : rune)")
    static void carveRefusesARuneBelow0() {
        RuneSticks x = of(1);
        refusedFor(ARGUMENT, rune -> x.carve(0, 0, 0, rune), -1, -2, MIN);
    }

    @Sentence("Throws `IllegalArgumentException` if rune is not 0 to 23")
    @Broken(in = "public int carve(", from = "needRune(rune)", to = "needRune(Math.min(rune, 23))")
    @Broken(in = "public int carve(", from = "needRune(rune)", to = "needRune(rune > 24 ? 0 : rune)")
    static void carveRefusesARuneAbove23() {
        RuneSticks x = of(1);
        refusedFor(ARGUMENT, rune -> x.carve(0, 0, 0, rune), 24, 25, MAX);
    }

    @Sentence("Throws `IllegalStateException` if the stick is gone")
    @Broken(in = "public int carve(", from = "needThere(carved);", to = "")
    static void carveRefusesAStickThatIsGone() {
        RuneSticks x = someGone();
        refusedFor(STATE, number -> x.carve(number, 0, 0, 9), GONE);
        due(4, x.carve(1, 0, 0, 9));
        due(4, x.carve(5, 0, 3, 9));
    }

    // ---- Promise 4: scrape

    @Sentence("Returns the rune that was there.")
    @Broken(in = "public int scrape(", from = "return before;", to = "return before == 0 ? NONE : before;")
    @Broken(in = "public int scrape(", from = "before == NONE", to = "before <= 0")
    static void scrapeReturnsTheRuneThatWasThere() {
        RuneSticks x = carved(0, 23);
        due(0, x.scrape(0, 0, 0));
        due(23, x.scrape(0, 0, 1));
    }

    @Sentence("Scrapes a rune off.")
    @Broken(in = "public int scrape(", from = "scraped.putRune(side, place, NONE);", to = "")
    static void scrapeLeavesNone() {
        RuneSticks x = carved(3, 4);
        x.scrape(0, 0, 0);
        due(-1, x.rune(0, 0, 0));
        due(1, x.stick(0, 2));
        refused(STATE, () -> x.scrape(0, 0, 0));
        due(4, x.rune(0, 0, 1));
    }

    @Sentence("three sides, 0 to 2")
    @Broken(in = "public int scrape(", from = "needPlace(scraped, side,",
        to = "needPlace(scraped, side == 2 ? 3 : side,")
    @Broken(in = "public int scrape(", from = "needPlace(scraped, side,",
        to = "needPlace(scraped, side == 0 ? 3 : side,")
    @Broken(in = "public int scrape(", from = "needPlace(scraped, side, place",
        to = "needPlace(scraped, side, place == 11 ? 12 : place")
    @Broken(in = "public int scrape(", from = "needPlace(scraped, side, place",
        to = "needPlace(scraped, side, place == 0 ? 12 : place")
    static void scrapeTakesTheFirstAndTheLastSideAndPlace() {
        RuneSticks x = of(12);
        x.carve(0, 0, 0, 1);
        x.carve(0, 2, 11, 2);
        due(1, x.scrape(0, 0, 0));
        due(2, x.scrape(0, 2, 11));
    }

    @Sentence("Throws `IndexOutOfBoundsException` if there is no such stick, side is not 0 to 2, or it has no such place")
    @Broken(in = "public int scrape(", from = KNOWN, to = KNOWS_NEXT)
    @Broken(in = "public int scrape(", from = KNOWN, to = KNOWS_MORE)
    @Broken(in = "public int scrape(", from = KNOWN, to = KNOWS_LESS)
    static void scrapeRefusesAnUnknownStick() {
        RuneSticks x = carved(5);
        unknownRefused(x, number -> x.scrape(number, 0, 0));
    }

    @Sentence("Throws `IndexOutOfBoundsException` if there is no such stick, side is not 0 to 2, or it has no such place")
    @Broken(in = "public int scrape(", from = "needPlace(scraped, side,", to = "needPlace(scraped, Math.max(side, 0),")
    @Broken(in = "public int scrape(", from = "needPlace(scraped, side,",
        to = "needPlace(scraped, side < -1 ? 0 : side,")
    static void scrapeRefusesASideBelow0() {
        RuneSticks x = of(2);
        fill(x, 0, 5);
        refusedFor(INDEX, side -> x.scrape(0, side, 1), -1, -2, MIN);
    }

    @Sentence("Throws `IndexOutOfBoundsException` if there is no such stick, side is not 0 to 2, or it has no such place")
    @Broken(in = "public int scrape(", from = "needPlace(scraped, side,", to = "needPlace(scraped, Math.min(side, 2),")
    @Broken(in = "public int scrape(", from = "needPlace(scraped, side,",
        to = "needPlace(scraped, side > 3 ? 0 : side,")
    static void scrapeRefusesASideAbove2() {
        RuneSticks x = of(2);
        fill(x, 0, 5);
        refusedFor(INDEX, side -> x.scrape(0, side, 0), 3, 4, MAX);
    }

    @Sentence("Throws `IndexOutOfBoundsException` if there is no such stick, side is not 0 to 2, or it has no such place")
    @Broken(in = "public int scrape(", from = "needPlace(scraped, side, place",
        to = "needPlace(scraped, side, Math.max(place, 0)")
    @Broken(in = "public int scrape(", from = "needPlace(scraped, side, place",
        to = "needPlace(scraped, side, place < -1 ? 0 : place")
    static void scrapeRefusesAPlaceBelow0() {
        RuneSticks x = of(2);
        fill(x, 0, 5);
        refusedFor(INDEX, place -> x.scrape(0, 1, place), -1, -2, MIN);
    }

    @Sentence("Throws `IndexOutOfBoundsException` if there is no such stick, side is not 0 to 2, or it has no such place")
    @Broken(in = "public int scrape(", from = "needPlace(scraped, side, place",
        to = "needPlace(scraped, side, place == scraped.places ? 0 : place")
    @Broken(in = "public int scrape(", from = "needPlace(scraped, side, place",
        to = "needPlace(scraped, side, place > scraped.places ? 0 : place")
    static void scrapeRefusesAPlaceBehindTheLast() {
        RuneSticks x = of(1, 12);
        fill(x, 0, 5);
        fill(x, 1, 5);
        refusedFor(INDEX, place -> x.scrape(0, 0, place), 1, 2, 12, MAX);
        refusedFor(INDEX, place -> x.scrape(1, 0, place), 12, 13, MAX);
    }

    @Sentence("Throws `IllegalStateException` if the stick is gone, or there is no rune")
    @Broken(in = "public int scrape(", from = "needThere(scraped);", to = "")
    static void scrapeRefusesAStickThatIsGone() {
        RuneSticks x = someGone();
        refusedFor(STATE, number -> x.scrape(number, 0, 0), GONE);
        due(4, x.scrape(1, 0, 0));
        due(4, x.scrape(5, 0, 3));
    }

    @Sentence("Throws `IllegalStateException` if the stick is gone, or there is no rune")
    @Broken(in = "public int scrape(", from = "before == NONE", to = "before < NONE")
    static void scrapeRefusesWhereNoRuneIs() {
        RuneSticks x = carved(3, -1, 3);
        refused(STATE, () -> x.scrape(0, 0, 1));
        refused(STATE, () -> x.scrape(0, 1, 0));
        refused(STATE, () -> x.scrape(0, 2, 2));
    }

    // ---- Promise 5: roll

    @Sentence("the one that was, and by, added, by the remainder of 3")
    @Broken(in = "public int roll(", from = "by < 0", to = "by < 1")
    static void rollTakes0() {
        RuneSticks x = of(1);
        due(0, x.roll(0, 0));
        x.roll(0, 1);
        due(1, x.roll(0, 0));
        due(1, x.stick(0, 1));
    }

    @Sentence("the one that was, and by, added, by the remainder of 3")
    @Broken(in = "public int roll(", from = "by >= SIDES", to = "by >= SIDES - 1")
    static void rollTakes2() {
        RuneSticks x = of(1);
        due(2, x.roll(0, 2));
        due(2, x.stick(0, 1));
    }

    @Sentence("the one that was, and by, added, by the remainder of 3")
    @Broken(in = "public int roll(", from = "(rolled.up + by) % SIDES", to = "Math.min(rolled.up + by, 2)")
    @Broken(in = "public int roll(", from = "(rolled.up + by) % SIDES", to = "(rolled.up + by) % 4")
    @Broken(in = "public int roll(", from = "(rolled.up + by) % SIDES", to = "rolled.up + by > 2 ? 0 : rolled.up + by")
    static void rollGoesRound() {
        int[][] want = {{0, 1, 2}, {1, 2, 0}, {2, 0, 1}};
        for (int was = 0; was < 3; was++) {
            for (int by = 0; by < 3; by++) {
                RuneSticks x = of(1);
                x.roll(0, was);
                due(want[was][by], x.roll(0, by));
                due(want[was][by], x.stick(0, 1));
            }
        }
    }

    @Sentence("Returns the side that is up then")
    @Broken(in = "public int roll(", from = "return rolled.up;", to = "return by;")
    static void rollReturnsTheSideThatIsUpThen() {
        RuneSticks x = of(1);
        due(1, x.roll(0, 1));
        due(2, x.roll(0, 1));
    }

    @Sentence("Throws `IndexOutOfBoundsException` if there is no such stick")
    @Broken(in = "public int roll(", from = KNOWN, to = KNOWS_NEXT)
    @Broken(in = "public int roll(", from = KNOWN, to = KNOWS_MORE)
    @Broken(in = "public int roll(", from = KNOWN, to = KNOWS_LESS)
    static void rollRefusesAnUnknownStick() {
        RuneSticks x = of(1, 1);
        unknownRefused(x, number -> x.roll(number, 1));
    }

    @Sentence("Throws `IllegalArgumentException` if by is not 0 to 2")
    @Broken(in = "public int roll(", from = "by < 0", to = "by < -1")
    @Broken(in = "public int roll(", from = "by < 0", to = "by == -1")
    static void rollRefusesBelow0() {
        RuneSticks x = of(1);
        refusedFor(ARGUMENT, by -> x.roll(0, by), -1, -2, -3, MIN);
    }

    @Sentence("Throws `IllegalArgumentException` if by is not 0 to 2")
    @Broken(in = "public int roll(", from = "by >= SIDES", to = "by > SIDES")
    @Broken(in = "public int roll(", from = "by >= SIDES", to = "by == SIDES")
    static void rollRefusesAbove2() {
        RuneSticks x = of(1);
        refusedFor(ARGUMENT, by -> x.roll(0, by), 3, 4, MAX);
    }

    @Sentence("Throws `IllegalStateException` if the stick is gone")
    @Broken(in = "public int roll(", from = "needThere(rolled);", to = "")
    @Broken(in = "public int roll(", from = "needThere(rolled);", to = "if (by != 0) { needThere(rolled); }")
    static void rollRefusesAStickThatIsGone() {
        RuneSticks x = someGone();
        refusedFor(STATE, number -> x.roll(number, 1), GONE);
        refusedFor(STATE, number -> x.roll(number, 0), GONE);
        due(1, x.roll(1, 1));
        due(1, x.roll(5, 1));
    }
}
