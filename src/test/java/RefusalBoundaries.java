/** The two sentences that hold for every method, method by method. */
final class RefusalBoundaries extends Checks {
    private static final String ADDS_A_BREAK = "breaks++; ";
    private static final String ADDS_NO_BREAK = " breaks--;";

    // ---- "A method that throws an exception changes nothing."

    @Sentence("A method that throws an exception changes nothing.")
    @Broken(in = "public int make(", from = "if (howManyThere()", to = "put(new Stick(places)); if (howManyThere()")
    @Broken(in = "public int make(", from = "if (places < 1",
        to = "breaks += 13 / Math.max(places, 13); if (places < 1")
    @Broken(in = "public int make(", from = "if (places < 1",
        to = "if (places < 1 && made < 40) { put(new Stick(1)); } if (places < 1")
    static void makeRefusedMakesNothing() {
        RuneSticks x = twelveThere(1);
        changesNothing(x, ARGUMENT, () -> x.make(0));
        changesNothing(x, ARGUMENT, () -> x.make(13));
        changesNothing(x, STATE, () -> x.make(1));
        RuneSticks y = inAll(40);
        changesNothing(y, STATE, () -> y.make(1));
        due(40, y.count(1));
    }

    @Sentence("A method that throws an exception changes nothing.")
    @Broken(in = "public int carve(", from = "needRune(rune);", to = "carved.putRune(side, place, 3); needRune(rune);")
    @Broken(in = "public int carve(", from = "needThere(carved);",
        to = "carved.putRune(side, place, rune); needThere(carved);")
    @Broken(in = "public int carve(", from = "needPlace(carved, side, place);",
        to = "carved.putRune(Math.min(Math.max(side, 0), 2), place, 3); needPlace(carved, side, place);")
    @Broken(in = "public int carve(", from = "Stick carved = known(stick);",
        to = "breaks++; Stick carved = known(stick); breaks--;")
    static void carveRefusedCarvesNothing() {
        RuneSticks x = someGone();
        changesNothing(x, INDEX, () -> x.carve(7, 0, 0, 9));
        changesNothing(x, INDEX, () -> x.carve(6, 3, 0, 9));
        changesNothing(x, INDEX, () -> x.carve(6, -1, 0, 9));
        changesNothing(x, INDEX, () -> x.carve(6, 0, 2, 9));
        changesNothing(x, ARGUMENT, () -> x.carve(6, 0, 0, 24));
        changesNothing(x, ARGUMENT, () -> x.carve(6, 0, 0, -1));
        changesNothing(x, STATE, () -> x.carve(0, 0, 0, 9));
        due(4, x.carve(6, 0, 0, 9));
    }

    @Sentence("A method that throws an exception changes nothing.")
    @Broken(in = "public int scrape(", from = "needThere(scraped);",
        to = "scraped.putRune(side, place, NONE); needThere(scraped);")
    @Broken(in = "public int scrape(", from = "if (before == NONE) {",
        to = "if (before == NONE) { scraped.putRune(side, place, 0);")
    @Broken(in = "public int scrape(", from = "needPlace(scraped, side, place);",
        to = "scraped.putRune(Math.min(Math.max(side, 0), 2), place, NONE); needPlace(scraped, side, place);")
    @Broken(in = "public int scrape(", from = "Stick scraped = known(stick);",
        to = "breaks++; Stick scraped = known(stick); breaks--;")
    static void scrapeRefusedScrapesNothing() {
        RuneSticks x = someGone();
        changesNothing(x, INDEX, () -> x.scrape(7, 0, 0));
        changesNothing(x, INDEX, () -> x.scrape(6, 3, 0));
        changesNothing(x, INDEX, () -> x.scrape(6, -1, 0));
        changesNothing(x, INDEX, () -> x.scrape(6, 0, 2));
        changesNothing(x, STATE, () -> x.scrape(0, 0, 0));
        x.scrape(6, 0, 0);
        changesNothing(x, STATE, () -> x.scrape(6, 0, 0));
    }

    @Sentence("A method that throws an exception changes nothing.")
    @Broken(in = "public int roll(", from = "needThere(rolled);",
        to = "rolled.up = (rolled.up + by) % SIDES; needThere(rolled);")
    @Broken(in = "public int roll(", from = "if (by < 0", to = "rolled.up = Math.max(by, 0) % SIDES; if (by < 0")
    @Broken(in = "public int roll(", from = "Stick rolled = known(stick);",
        to = "breaks++; Stick rolled = known(stick); breaks--;")
    static void rollRefusedTurnsNothing() {
        RuneSticks x = someGone();
        x.roll(6, 1);
        changesNothing(x, INDEX, () -> x.roll(7, 1));
        changesNothing(x, ARGUMENT, () -> x.roll(6, 3));
        changesNothing(x, ARGUMENT, () -> x.roll(6, -1));
        changesNothing(x, STATE, () -> x.roll(0, 1));
        due(1, x.stick(6, 1));
    }

    @Sentence("A method that throws an exception changes nothing.")
    @Broken(in = "public int bend(", from = "if (howManyThere()", to = "breaks++; if (howManyThere()")
    @Broken(in = "public int bend(", from = "needNumbersLeft(2);", to = "bent.gone = true; needNumbersLeft(2);")
    @Broken(in = "public int bend(", from = "needForce(force);",
        to = "if (force > 20) { breakAt(bent, bent.firstWeakestJoint()); } needForce(force);")
    @Broken(in = "public int bend(", from = "needThere(bent);", to = "breaks++; needThere(bent); breaks--;")
    @Broken(in = "public int bend(", from = "Stick bent = known(stick);",
        to = "breaks++; Stick bent = known(stick); breaks--;")
    static void bendRefusedBreaksNothing() {
        RuneSticks x = someGone();
        changesNothing(x, INDEX, () -> x.bend(7, 20));
        changesNothing(x, ARGUMENT, () -> x.bend(6, 0));
        changesNothing(x, ARGUMENT, () -> x.bend(6, 21));
        changesNothing(x, STATE, () -> x.bend(0, 20));
        RuneSticks y = twelveThere(2);
        changesNothing(y, STATE, () -> y.bend(0, 20));
        RuneSticks z = inAll(39);
        changesNothing(z, STATE, () -> z.bend(38, 20));
        due(-1, z.bend(38, 12));
    }

    @Sentence("A method that throws an exception changes nothing.")
    @Broken(in = "public int glue(", from = "needThere(second);",
        to = "first.gone = true; needThere(second); first.gone = false;")
    @Broken(in = "public int glue(", from = "needThere(first);", to = "second.up = 2; needThere(first);")
    @Broken(in = "public int glue(", from = "if (first == second) {", to = "if (first == second) { first.gone = true;")
    @Broken(in = "public int glue(", from = "if (first.places + second.places > MOST_PLACES) {",
        to = "if (first.places + second.places > MOST_PLACES) { first.gone = true;")
    @Broken(in = "public int glue(", from = "needNumbersLeft(1);", to = "second.gone = true; needNumbersLeft(1);")
    @Broken(in = "public int glue(", from = "if (twist < 0",
        to = "if (twist == 3) { first.gone = true; } if (twist < 0")
    @Broken(in = "public int glue(", from = "if (base < 1", to = "if (base == 0) { first.gone = true; } if (base < 1")
    @Broken(in = "public int glue(", from = "Stick second = known(other);",
        to = "first.gone = !first.gone; Stick second = known(other); first.gone = !first.gone;")
    @Broken(in = "public int glue(", from = "Stick first = known(stick);",
        to = "breaks++; Stick first = known(stick); breaks--;")
    static void glueRefusedGluesNothing() {
        RuneSticks x = someGone();
        changesNothing(x, INDEX, () -> x.glue(7, 6, 0, 5));
        changesNothing(x, INDEX, () -> x.glue(6, 7, 0, 5));
        changesNothing(x, ARGUMENT, () -> x.glue(5, 6, 3, 5));
        changesNothing(x, ARGUMENT, () -> x.glue(5, 6, 0, 0));
        changesNothing(x, STATE, () -> x.glue(0, 6, 0, 5));
        changesNothing(x, STATE, () -> x.glue(6, 0, 0, 5));
        changesNothing(x, STATE, () -> x.glue(6, 6, 0, 5));
        RuneSticks y = of(12, 1);
        changesNothing(y, STATE, () -> y.glue(0, 1, 0, 5));
        RuneSticks z = inAll(39);
        z.make(1);
        changesNothing(z, STATE, () -> z.glue(38, 39, 0, 5));
    }

    @Sentence("A method that throws an exception changes nothing.")
    @Broken(in = "public int stick(", from = "if (what", to = "breaks++; if (what")
    @Broken(in = "public int rune(", from = "needPlace(asked, side, place);",
        to = ADDS_A_BREAK + "needPlace(asked, side, place);" + ADDS_NO_BREAK)
    @Broken(in = "public int strength(", from = "if (!asked", to = ADDS_A_BREAK + "if (!asked")
    @Broken(in = "public int count(", from = "if (what", to = ADDS_A_BREAK + "if (what")
    @Broken(in = "public boolean fits(", from = "Stick second = known(other);",
        to = ADDS_A_BREAK + "Stick second = known(other);" + ADDS_NO_BREAK)
    @Broken(in = "private Stick known(", from = "throw", to = ADDS_A_BREAK + "throw")
    static void tellingRefusedChangesNothing() {
        RuneSticks x = someGone();
        changesNothing(x, INDEX, () -> x.stick(7, 0));
        changesNothing(x, INDEX, () -> x.stick(6, 7));
        changesNothing(x, INDEX, () -> x.rune(7, 0, 0));
        changesNothing(x, INDEX, () -> x.rune(6, 3, 0));
        changesNothing(x, INDEX, () -> x.strength(7, 0));
        changesNothing(x, INDEX, () -> x.strength(6, 1));
        changesNothing(x, INDEX, () -> x.count(7));
        changesNothing(x, INDEX, () -> x.fits(7, 6));
        changesNothing(x, INDEX, () -> x.fits(6, 7));
    }

    @Sentence("A method that throws an exception changes nothing.")
    @Broken(in = "public int size(", from = TURN + ";", to = ADDS_A_BREAK + TURN + ";" + ADDS_NO_BREAK)
    @Broken(in = "public int reads(", from = TURN + ";", to = ADDS_A_BREAK + TURN + ";" + ADDS_NO_BREAK)
    @Broken(in = "public int reads(", from = "if (rune == NONE) {", to = "if (rune == NONE) { read.up = 0;")
    @Broken(in = "public int has(", from = "needRune(rune);", to = ADDS_A_BREAK + "needRune(rune);" + ADDS_NO_BREAK)
    @Broken(in = "public int has(", from = "needRune(next);", to = ADDS_A_BREAK + "needRune(next);" + ADDS_NO_BREAK)
    @Broken(in = "public int rhyme(", from = TURN + ";", to = ADDS_A_BREAK + TURN + ";" + ADDS_NO_BREAK)
    @Broken(in = "private Stick known(", from = "throw", to = ADDS_A_BREAK + "throw")
    static void readingRefusedChangesNothing() {
        RuneSticks x = someGone();
        x.roll(6, 2);
        changesNothing(x, INDEX, () -> x.size(7, 0));
        changesNothing(x, ARGUMENT, () -> x.size(6, 3));
        changesNothing(x, INDEX, () -> x.reads(7, 0, 0));
        changesNothing(x, ARGUMENT, () -> x.reads(6, 3, 0));
        changesNothing(x, ARGUMENT, () -> x.reads(6, 0, 2));
        changesNothing(x, INDEX, () -> x.has(7, 0, 0));
        changesNothing(x, ARGUMENT, () -> x.has(6, 24, 0));
        changesNothing(x, ARGUMENT, () -> x.has(6, 0, 24));
        changesNothing(x, INDEX, () -> x.rhyme(7, 6, 0));
        changesNothing(x, INDEX, () -> x.rhyme(6, 7, 0));
        changesNothing(x, ARGUMENT, () -> x.rhyme(6, 5, 3));
    }

    @Sentence("A method that throws an exception changes nothing.")
    @Broken(in = "public int best(", from = TURN + ";", to = ADDS_A_BREAK + TURN + ";" + ADDS_NO_BREAK)
    @Broken(in = "public int pieces(", from = FORCE + ";", to = ADDS_A_BREAK + FORCE + ";" + ADDS_NO_BREAK)
    @Broken(in = "public int row(", from = TURN + ";", to = ADDS_A_BREAK + TURN + ";" + ADDS_NO_BREAK)
    @Broken(in = "public int row(", from = "needThere(first);", to = "first.gone = false;")
    @Broken(in = "public int row(", from = "needThere(first);",
        to = ADDS_A_BREAK + "needThere(first);" + ADDS_NO_BREAK)
    @Broken(in = "private Stick known(", from = "throw", to = ADDS_A_BREAK + "throw")
    static void foretellingRefusedChangesNothing() {
        RuneSticks x = someGone();
        changesNothing(x, INDEX, () -> x.best(7, 6, 0));
        changesNothing(x, INDEX, () -> x.best(6, 7, 0));
        changesNothing(x, ARGUMENT, () -> x.best(6, 5, 3));
        changesNothing(x, INDEX, () -> x.pieces(7, 20));
        changesNothing(x, ARGUMENT, () -> x.pieces(6, 0));
        changesNothing(x, ARGUMENT, () -> x.pieces(6, 21));
        changesNothing(x, INDEX, () -> x.row(7, 0));
        changesNothing(x, ARGUMENT, () -> x.row(6, 3));
        changesNothing(x, STATE, () -> x.row(0, 0));
    }

    // ---- "If several exceptions apply, the one that is named first is thrown."

    @Sentence("If several exceptions apply, the one that is named first is thrown.")
    @Broken(in = "public int make(", from = "if (places < 1",
        to = "if (howManyThere() >= MOST_THERE) { throw new IllegalStateException(); } if (places < 1")
    @Broken(in = "public int make(", from = "if (places < 1", to = "needNumbersLeft(1); if (places < 1")
    static void makeNamesTheArgumentBeforeTheState() {
        RuneSticks x = twelveThere(1);
        refusedFor(ARGUMENT, x::make, 0, 13);
        RuneSticks y = inAll(40);
        refusedFor(ARGUMENT, y::make, 0, 13);
    }

    @Sentence("If several exceptions apply, the one that is named first is thrown.")
    @Broken(in = "public int carve(", from = "Stick carved", to = "needRune(rune); Stick carved")
    @Broken(in = "public int carve(", from = "needPlace(carved", to = "needRune(rune); needPlace(carved")
    static void carveNamesTheIndexBeforeTheArgument() {
        RuneSticks x = of(2);
        refused(INDEX, () -> x.carve(1, 0, 0, 24));
        refused(INDEX, () -> x.carve(-1, 0, 0, -1));
        refused(INDEX, () -> x.carve(0, 3, 0, 24));
        refused(INDEX, () -> x.carve(0, 0, 2, -1));
    }

    @Sentence("If several exceptions apply, the one that is named first is thrown.")
    @Broken(in = "public int carve(", from = "needPlace(carved", to = "needThere(carved); needPlace(carved")
    static void carveNamesTheIndexBeforeTheState() {
        RuneSticks x = someGone();
        refused(INDEX, () -> x.carve(0, 3, 0, 9));
        refused(INDEX, () -> x.carve(3, 0, 2, 9));
        refused(INDEX, () -> x.carve(4, 0, -1, 24));
    }

    @Sentence("If several exceptions apply, the one that is named first is thrown.")
    @Broken(in = "public int carve(", from = "needRune(rune);", to = "needThere(carved); needRune(rune);")
    static void carveNamesTheArgumentBeforeTheState() {
        RuneSticks x = someGone();
        refused(ARGUMENT, () -> x.carve(0, 0, 0, 24));
        refused(ARGUMENT, () -> x.carve(4, 2, 1, -1));
    }

    @Sentence("If several exceptions apply, the one that is named first is thrown.")
    @Broken(in = "public int scrape(", from = "needPlace(scraped", to = "needThere(scraped); needPlace(scraped")
    @Broken(in = "public int scrape(", from = "needPlace(scraped, side, place);",
        to = "if (scraped.runeAt(side, place) == NONE) { throw new IllegalStateException(); }"
            + " needPlace(scraped, side, place);")
    static void scrapeNamesTheIndexBeforeTheState() {
        RuneSticks x = someGone();
        refused(INDEX, () -> x.scrape(0, 3, 0));
        refused(INDEX, () -> x.scrape(3, 0, 2));
        RuneSticks y = of(2);
        refused(INDEX, () -> y.scrape(0, -1, 0));
        refused(INDEX, () -> y.scrape(0, 0, 2));
    }

    @Sentence("If several exceptions apply, the one that is named first is thrown.")
    @Broken(in = "public int roll(", from = "Stick rolled",
        to = "if (by < 0 || by > 2) { throw new IllegalArgumentException(); } Stick rolled")
    static void rollNamesTheIndexBeforeTheArgument() {
        RuneSticks x = of(2);
        refused(INDEX, () -> x.roll(1, 3));
        refused(INDEX, () -> x.roll(-1, -1));
    }

    @Sentence("If several exceptions apply, the one that is named first is thrown.")
    @Broken(in = "public int roll(", from = "if (by", to = "needThere(rolled); if (by")
    static void rollNamesTheArgumentBeforeTheState() {
        RuneSticks x = someGone();
        refusedFor(ARGUMENT, by -> x.roll(0, by), 3, -1);
    }

    @Sentence("If several exceptions apply, the one that is named first is thrown.")
    @Broken(in = "public int bend(", from = "Stick bent", to = "needForce(force); Stick bent")
    static void bendNamesTheIndexBeforeTheArgument() {
        RuneSticks x = of(2);
        refused(INDEX, () -> x.bend(1, 0));
        refused(INDEX, () -> x.bend(-1, 21));
    }

    @Sentence("If several exceptions apply, the one that is named first is thrown.")
    @Broken(in = "public int bend(", from = FORCE, to = "needThere(bent); needForce(force)")
    @Broken(in = "public int bend(", from = FORCE,
        to = "if (force > 20 && howManyThere() >= MOST_THERE) { throw new IllegalStateException(); } needForce(force)")
    @Broken(in = "public int bend(", from = FORCE, to = "if (force > 20) { needNumbersLeft(2); } needForce(force)")
    static void bendNamesTheArgumentBeforeTheState() {
        RuneSticks x = someGone();
        refusedFor(ARGUMENT, force -> x.bend(0, force), 0, 21);
        RuneSticks y = twelveThere(2);
        refused(ARGUMENT, () -> y.bend(0, 21));
        RuneSticks z = inAll(39);
        refused(ARGUMENT, () -> z.bend(38, 21));
    }

    @Sentence("If several exceptions apply, the one that is named first is thrown.")
    @Broken(in = "public int bend(", from = "Stick bent = known(stick);",
        to = "needNumbersLeft(2); Stick bent = known(stick);")
    static void bendNamesTheIndexBeforeTheState() {
        RuneSticks x = inAll(39);
        refused(INDEX, () -> x.bend(39, 20));
    }

    @Sentence("If several exceptions apply, the one that is named first is thrown.")
    @Broken(in = "public int glue(", from = "Stick first",
        to = "if (twist < 0 || twist > 2) { throw new IllegalArgumentException(); } Stick first")
    @Broken(in = "public int glue(", from = "Stick first",
        to = "if (base < 1 || base > 9) { throw new IllegalArgumentException(); } Stick first")
    @Broken(in = "public int glue(", from = "Stick second",
        to = "if (twist < 0 || twist > 2) { throw new IllegalArgumentException(); } Stick second")
    @Broken(in = "public int glue(", from = "Stick second",
        to = "if (base < 1 || base > 9) { throw new IllegalArgumentException(); } Stick second")
    static void glueNamesTheIndexBeforeTheArgument() {
        RuneSticks x = of(2, 2);
        refused(INDEX, () -> x.glue(2, 0, 3, 5));
        refused(INDEX, () -> x.glue(2, 0, 0, 0));
        refused(INDEX, () -> x.glue(0, 2, -1, 5));
        refused(INDEX, () -> x.glue(0, -1, 0, 10));
        refused(INDEX, () -> x.glue(2, 2, 3, 10));
    }

    @Sentence("If several exceptions apply, the one that is named first is thrown.")
    @Broken(in = "public int glue(", from = "Stick second", to = "needThere(first); Stick second")
    @Broken(in = "public int glue(", from = "Stick first", to = "needNumbersLeft(1); Stick first")
    static void glueNamesTheIndexBeforeTheState() {
        RuneSticks x = someGone();
        refused(INDEX, () -> x.glue(0, 7, 0, 5));
        refused(INDEX, () -> x.glue(7, 0, 0, 5));
        RuneSticks y = inAll(40);
        refused(INDEX, () -> y.glue(39, 40, 0, 5));
    }

    @Sentence("If several exceptions apply, the one that is named first is thrown.")
    @Broken(in = "public int glue(", from = "if (twist", to = "needThere(first); if (twist")
    @Broken(in = "public int glue(", from = "if (twist", to = "needThere(second); if (twist")
    @Broken(in = "public int glue(", from = "if (base", to = "needThere(first); if (base")
    @Broken(in = "public int glue(", from = "if (base",
        to = "if (first == second) { throw new IllegalStateException(); } if (base")
    @Broken(in = "public int glue(", from = "if (twist",
        to = "if (first == second) { throw new IllegalStateException(); } if (twist")
    @Broken(in = "public int glue(", from = "if (base",
        to = "if (first.places + second.places > MOST_PLACES) { throw new IllegalStateException(); } if (base")
    @Broken(in = "public int glue(", from = "if (base", to = "needNumbersLeft(1); if (base")
    static void glueNamesTheArgumentBeforeTheState() {
        RuneSticks x = someGone();
        refused(ARGUMENT, () -> x.glue(0, 6, 3, 5));
        refused(ARGUMENT, () -> x.glue(6, 0, -1, 5));
        refused(ARGUMENT, () -> x.glue(0, 6, 0, 0));
        refused(ARGUMENT, () -> x.glue(6, 0, 0, 10));
        refused(ARGUMENT, () -> x.glue(6, 6, 3, 5));
        refused(ARGUMENT, () -> x.glue(6, 6, 0, 10));
        RuneSticks y = of(12, 1);
        refused(ARGUMENT, () -> y.glue(0, 1, 0, 0));
        refused(ARGUMENT, () -> y.glue(0, 1, 3, 5));
        RuneSticks z = inAll(39);
        z.make(1);
        refused(ARGUMENT, () -> z.glue(38, 39, 0, 0));
        refused(ARGUMENT, () -> z.glue(38, 39, 3, 5));
    }

    @Sentence("If several exceptions apply, the one that is named first is thrown.")
    @Broken(in = "public int size(", from = "Stick read", to = "needTurn(turn); Stick read")
    static void sizeNamesTheIndexBeforeTheArgument() {
        RuneSticks x = of(2);
        refused(INDEX, () -> x.size(1, 3));
        refused(INDEX, () -> x.size(-1, -1));
    }

    @Sentence("If several exceptions apply, the one that is named first is thrown.")
    @Broken(in = "public int reads(", from = "Stick read", to = "needTurn(turn); Stick read")
    @Broken(in = "public int reads(", from = "Stick read",
        to = "if (index < 0) { throw new IllegalArgumentException(); } Stick read")
    static void readsNamesTheIndexBeforeTheArgument() {
        RuneSticks x = of(2);
        refused(INDEX, () -> x.reads(1, 3, 0));
        refused(INDEX, () -> x.reads(-1, 0, -1));
        refused(INDEX, () -> x.reads(1, -1, 12));
    }

    @Sentence("If several exceptions apply, the one that is named first is thrown.")
    @Broken(in = "public int has(", from = "Stick read", to = "needRune(rune); Stick read")
    @Broken(in = "public int has(", from = "Stick read", to = "needRune(next); Stick read")
    static void hasNamesTheIndexBeforeTheArgument() {
        RuneSticks x = of(2);
        refused(INDEX, () -> x.has(1, 24, 0));
        refused(INDEX, () -> x.has(-1, 0, -1));
    }

    @Sentence("If several exceptions apply, the one that is named first is thrown.")
    @Broken(in = "public int rhyme(", from = "Stick one", to = "needTurn(turn); Stick one")
    @Broken(in = "public int rhyme(", from = "Stick two", to = "needTurn(turn); Stick two")
    static void rhymeNamesTheIndexBeforeTheArgument() {
        RuneSticks x = of(2);
        refused(INDEX, () -> x.rhyme(1, 0, 3));
        refused(INDEX, () -> x.rhyme(0, 1, -1));
    }

    @Sentence("If several exceptions apply, the one that is named first is thrown.")
    @Broken(in = "public int best(", from = "Stick rolled", to = "needTurn(turn); Stick rolled")
    @Broken(in = "public int best(", from = "Stick lying", to = "needTurn(turn); Stick lying")
    static void bestNamesTheIndexBeforeTheArgument() {
        RuneSticks x = of(2);
        refused(INDEX, () -> x.best(1, 0, 3));
        refused(INDEX, () -> x.best(0, 1, -1));
    }

    @Sentence("If several exceptions apply, the one that is named first is thrown.")
    @Broken(in = "public int pieces(", from = "Stick bent", to = "needForce(force); Stick bent")
    static void piecesNamesTheIndexBeforeTheArgument() {
        RuneSticks x = of(2);
        refused(INDEX, () -> x.pieces(1, 0));
        refused(INDEX, () -> x.pieces(-1, 21));
    }

    @Sentence("If several exceptions apply, the one that is named first is thrown.")
    @Broken(in = "public int row(", from = "Stick first", to = "needTurn(turn); Stick first")
    static void rowNamesTheIndexBeforeTheArgument() {
        RuneSticks x = of(2);
        refused(INDEX, () -> x.row(1, 3));
        refused(INDEX, () -> x.row(-1, -1));
    }

    @Sentence("If several exceptions apply, the one that is named first is thrown.")
    @Broken(in = "public int row(", from = TURN + ";", to = "needThere(first); needTurn(turn);")
    static void rowNamesTheArgumentBeforeTheState() {
        RuneSticks x = someGone();
        refusedFor(ARGUMENT, turn -> x.row(0, turn), 3, -1);
    }
}
