import java.util.ArrayList;
import java.util.Arrays;
import java.util.List;

/** The sentences of promises 11 to 19 that name a boundary case. */
public final class BoundsOfFillingTest {
    private static final Class<IllegalArgumentException> ILLEGAL = IllegalArgumentException.class;
    private static final Class<IllegalStateException> STATE = IllegalStateException.class;
    private static final Class<IndexOutOfBoundsException> INDEX = IndexOutOfBoundsException.class;
    private static final Class<UnsupportedOperationException> UNSUPPORTED = UnsupportedOperationException.class;

    private static final int[] PLAIN = {0, 0, 0, 0, 1};
    private static final int[] UPWARD = {1, 0, 0, 0, 1};
    private static final int[] RIGHTWARD = {0, 1, 0, 0, 1};
    private static final int[] DOWNWARD = {0, 0, 1, 0, 1};
    private static final int[] LEFTWARD = {0, 0, 0, 1, 1};

    private static void bothOptions(String what, Tilehold maker, int cell, int due) {
        Check.same(what + ", options(" + cell + ")", maker.options(cell), due);
        Check.same(what + ", optionsAnew(" + cell + ")", maker.optionsAnew(cell), due);
    }

    // Promises 11 and 12.

    private static void optionsCells() {
        for (Past past : Past.values()) {
            for (int cell : Maker.outOf(0, past.cells - 1)) {
                past.refuses("options(" + cell + ")", INDEX, maker -> maker.options(cell));
            }
        }
    }

    private static void optionsAnewCells() {
        for (Past past : Past.values()) {
            for (int cell : Maker.outOf(0, past.cells - 1)) {
                past.refuses("optionsAnew(" + cell + ")", INDEX, maker -> maker.optionsAnew(cell));
            }
        }
    }

    private static void optionsNoneToAll() {
        Tilehold maker = new Tilehold();
        maker.setSize(6, 6);
        for (int tiles = 0; tiles <= 8; tiles++) {
            bothOptions(tiles + " tiles", maker, 0, tiles);
            bothOptions(tiles + " tiles", maker, 35, tiles);
            if (tiles < 8) {
                maker.addTile(2, 2, 2, 2, 1);
            }
        }
        maker.fix(35, 7);
        bothOptions("one is fixed", maker, 35, 1);
        bothOptions("another cell", maker, 34, 8);
        maker.ban(35, 7);
        bothOptions("it is banned", maker, 35, 0);
        bothOptions("the farthest cell", maker, 0, 0);
    }

    /** In a world of each size that has a single row or column, the last cell is narrowed by what the first one has. */
    private static void optionsFromEndToEnd() {
        for (int length = 1; length <= 6; length++) {
            for (boolean isRow : new boolean[] {true, false}) {
                Tilehold maker = Maker.byTurns();
                maker.setSize(isRow ? length : 1, isRow ? 1 : length);
                bothOptions("nothing fixed", maker, length - 1, 2);
                maker.fix(0, 1);
                bothOptions("the first fixed", maker, length - 1, 1);
                maker.soften(0);
                maker.fix(length - 1, 0);
                bothOptions("the last fixed", maker, 0, 1);
                maker.fill(0);
                Check.same("the first one's tile", maker.tileAt(0), (length - 1) % 2);
            }
        }
    }

    /** Wishes and guesses narrow nothing that is told. */
    private static void optionsWithoutWishes() {
        Tilehold maker = Maker.alikeTiles(8);
        maker.setMost(0, 0);
        maker.setRoad(true);
        maker.fill(200);
        bothOptions("after filling with wishes", maker, 0, 8);
        bothOptions("after filling with wishes", maker, 8, 8);
    }

    // Promise 13.

    private static void limitsRefused() {
        for (Past past : Past.values()) {
            for (int limit : Maker.outOf(0, 200)) {
                past.refuses("fill(" + limit + ")", ILLEGAL, maker -> maker.fill(limit));
            }
        }
    }

    private static void noTilesRefused() {
        for (int limit : new int[] {0, 1, 199, 200}) {
            Past.NEW.refuses("fill(" + limit + ")", STATE, maker -> maker.fill(limit));
        }
        Tilehold maker = new Tilehold();
        maker.setSize(1, 1);
        Check.throwsOnly("fill(0)", STATE, () -> maker.fill(0));
        maker.addTile(0, 0, 0, 0, 1);
        Check.same("fill(0) with a tile", maker.fill(0), 'd');
    }

    private static void limitRange() {
        Tilehold maker = Maker.of(UPWARD, PLAIN);
        maker.setSize(1, 1);
        for (int limit : new int[] {0, 1, 199, 200}) {
            Check.same("fill(" + limit + ")", maker.fill(limit), 'd');
        }
        maker.setMost(0, 0);
        maker.setMost(1, 0);
        Check.same("fill(0) that goes wrong", maker.fill(0), 'l');
        Check.same("fill(1) that goes wrong", maker.fill(1), 'n');
        Check.same("fill(200) that goes wrong", maker.fill(200), 'n');
    }

    private static void filledOnlyWithD() {
        Tilehold maker = Maker.of(UPWARD, PLAIN);
        maker.setSize(2, 1);
        maker.setSeed(Maker.seedFor(0, 2));
        maker.setMost(0, 0);
        Check.same("given up", maker.fill(0), 'l');
        Check.same("isFilled after 'l'", maker.isFilled(), false);
        Check.same("filled", maker.fill(200), 'd');
        Check.same("isFilled after 'd'", maker.isFilled(), true);
        Check.same("given up once more", maker.fill(0), 'l');
        Check.same("isFilled after 'd' and 'l'", maker.isFilled(), false);
        Check.throwsOnly("tileAt after 'd' and 'l'", STATE, () -> maker.tileAt(0));
        maker.setMost(1, 1);
        Check.same("it can't be filled", maker.fill(200), 'n');
        Check.same("isFilled after 'n'", maker.isFilled(), false);
    }

    /** What sets what was so already counts, too. */
    private static void whatMakesItNotFilled() {
        List<Maker.Call> calls = new ArrayList<>();
        calls.add(maker -> maker.addTile(0, 0, 0, 0, 1));
        calls.add(maker -> maker.setSize(3, 3));
        calls.add(maker -> maker.setSize(1, 1));
        calls.add(maker -> maker.setSize(6, 6));
        calls.add(maker -> maker.fix(0, 0));
        calls.add(maker -> maker.fix(4, 4));
        calls.add(maker -> maker.fix(8, 6));
        calls.add(maker -> maker.ban(0, 0));
        calls.add(maker -> maker.ban(2, 0));
        calls.add(maker -> maker.ban(8, 6));
        calls.add(maker -> maker.soften(0));
        calls.add(maker -> maker.soften(4));
        calls.add(maker -> maker.soften(8));
        calls.add(maker -> maker.setMost(0, -1));
        calls.add(maker -> maker.setMost(5, 1));
        calls.add(maker -> maker.setMost(6, 36));
        calls.add(maker -> maker.setRoad(true));
        calls.add(maker -> maker.setRoad(false));
        calls.add(maker -> maker.setSeed(65729));
        calls.add(maker -> maker.setSeed(0));
        for (int number = 0; number < calls.size(); number++) {
            Tilehold maker = Past.FILLED.make();
            calls.get(number).on(maker);
            Check.same("isFilled after call " + number, maker.isFilled(), false);
            Check.throwsOnly("tileAt after call " + number, STATE, () -> maker.tileAt(0));
            Check.throwsOnly("roads after call " + number, STATE, maker::roads);
            Check.throwsOnly("worldSum after call " + number, STATE, maker::worldSum);
            Check.throwsOnly("roadShare after call " + number, STATE, maker::roadShare);
            Check.same("guesses after call " + number, maker.guesses(), 17);
            Check.same("takenBack after call " + number, maker.takenBack(), 13);
        }
    }

    private static void whatLeavesItFilled() {
        List<Maker.Call> calls = new ArrayList<>();
        calls.add(maker -> maker.areFitting(0, 0, 0));
        calls.add(maker -> maker.options(0));
        calls.add(maker -> maker.optionsAnew(0));
        calls.add(Tilehold::isFilled);
        calls.add(maker -> maker.tileAt(0));
        calls.add(Tilehold::guesses);
        calls.add(Tilehold::takenBack);
        calls.add(Tilehold::roads);
        calls.add(maker -> maker.visit(50, 50));
        calls.add(maker -> maker.visit(0, 1));
        calls.add(maker -> maker.chunkTile(0, 1, 0));
        calls.add(maker -> maker.border(0, 0, true, 0));
        calls.add(Tilehold::chunks);
        calls.add(Tilehold::forget);
        calls.add(Tilehold::worldSum);
        calls.add(Tilehold::meanOptions);
        calls.add(Tilehold::roadShare);
        calls.add(Tilehold::isSound);
        Tilehold before = Past.FILLED.make();
        for (int number = 0; number < calls.size(); number++) {
            Tilehold maker = Past.FILLED.make();
            calls.get(number).on(maker);
            Check.same("isFilled after call " + number, maker.isFilled(), true);
            Check.same("takenBack after call " + number, maker.takenBack(), 13);
            Check.same("guesses after call " + number, maker.guesses(), 17);
            for (int cell = 0; cell < 9; cell++) {
                Check.same("tileAt after call " + number, maker.tileAt(cell), before.tileAt(cell));
            }
        }
        Tilehold small = Past.SMALLEST.make();
        small.ways();
        Check.same("isFilled after ways", small.isFilled(), true);
        Tilehold givenUp = Past.GIVEN_UP.make();
        int guesses = givenUp.guesses();
        givenUp.ways();
        Check.same("guesses after ways", givenUp.guesses(), guesses);
        Check.same("takenBack after ways", givenUp.takenBack(), 3);
        Check.same("isFilled after ways of a world that is not", givenUp.isFilled(), false);
    }

    // Promise 15.

    private static void tileAtCells() {
        for (Past past : Past.values()) {
            for (int cell : Maker.outOf(0, past.cells - 1)) {
                past.refuses("tileAt(" + cell + ")", INDEX, maker -> maker.tileAt(cell));
            }
        }
    }

    private static void tileAtWithoutFilling() {
        for (Past past : new Past[] {Past.NEW, Past.GIVEN_UP}) {
            past.refuses("tileAt(0)", STATE, maker -> maker.tileAt(0));
            past.refuses("tileAt of the last cell", STATE, maker -> maker.tileAt(past.cells - 1));
        }
    }

    private static void tileAtFirstAndLast() {
        for (int side : new int[] {1, 3, 6}) {
            for (int tile : new int[] {0, 7}) {
                Tilehold maker = Maker.alikeTiles(8);
                int cells = maker.setSize(side, side);
                maker.fix(0, tile);
                maker.fix(cells - 1, cells == 1 ? tile : 7 - tile);
                maker.fill(0);
                Check.same("the first of " + cells, maker.tileAt(0), tile);
                Check.same("the last of " + cells, maker.tileAt(cells - 1), cells == 1 ? tile : 7 - tile);
            }
        }
    }

    // Promises 16 and 17.

    private static void guessesNoneToMany() {
        Tilehold maker = Maker.alikeTiles(2);
        Check.same("without a call of fill", maker.guesses(), 0);
        Check.throwsOnly("a refused one", ILLEGAL, () -> maker.fill(-1));
        Check.same("with a refused call", maker.guesses(), 0);
        for (int free = 0; free <= 9; free++) {
            maker.setSize(3, 3);
            for (int cell = free; cell < 9; cell++) {
                maker.fix(cell, 1);
            }
            Check.same("guesses stay until the next call", maker.guesses(), Math.max(0, free - 1));
            Check.same("fill", maker.fill(0), 'd');
            Check.same("guesses with free cells", maker.guesses(), free);
        }
        Check.throwsOnly("a refused one", ILLEGAL, () -> maker.fill(201));
        Check.same("the refused one is not the last one", maker.guesses(), 9);
        maker.setSize(1, 1);
        maker.ban(0, 0);
        maker.ban(0, 1);
        Check.same("nothing possible", maker.fill(200), 'n');
        Check.same("no guess with 'n'", maker.guesses(), 0);
    }

    private static void takenBackNoneToMany() {
        Tilehold maker = Maker.of(PLAIN, UPWARD, DOWNWARD, PLAIN);
        Check.same("without a call of fill", maker.takenBack(), 0);
        maker.setSize(6, 2);
        maker.setRoad(true);
        for (int cell = 0; cell < 12; cell++) {
            maker.ban(cell, 1);
            maker.ban(cell, 2);
        }
        maker.soften(10);
        maker.fix(10, 2);
        maker.soften(11);
        maker.fix(11, 2);
        for (int limit : new int[] {0, 1, 2, 100, 199, 200}) {
            Check.same("fill(" + limit + ")", maker.fill(limit), 'l');
            Check.same("takenBack of " + limit, maker.takenBack(), limit);
        }
        Check.throwsOnly("a refused one", ILLEGAL, () -> maker.fill(201));
        Check.same("the refused one is not the last one", maker.takenBack(), 200);
        maker.setRoad(false);
        Check.same("takenBack stays until the next call", maker.takenBack(), 200);
        Check.same("fill without the wish", maker.fill(200), 'd');
        Check.same("nothing taken back", maker.takenBack(), 0);
    }

    // Promise 18.

    private static void waysOfUpToFourCells() {
        for (int width = 1; width <= 6; width++) {
            for (int height = 1; height <= 6; height++) {
                Tilehold maker = Maker.alikeTiles(8);
                int cells = maker.setSize(width, height);
                if (cells > 4) {
                    Check.throwsOnly("ways of " + width + " by " + height, UNSUPPORTED, maker::ways);
                } else {
                    Check.same("ways of " + width + " by " + height, maker.ways(), 1 << 3 * cells);
                }
            }
        }
    }

    private static void waysRefused() {
        for (Past past : new Past[] {Past.NEW, Past.FILLED, Past.FULL}) {
            past.refuses("ways()", UNSUPPORTED, Tilehold::ways);
        }
        Tilehold maker = Past.GIVEN_UP.make();
        int ways = maker.ways();
        maker.setSize(5, 1);
        Check.throwsOnly("ways of 5 cells", UNSUPPORTED, maker::ways);
        maker.setSize(2, 2);
        maker.fix(2, 5);
        maker.ban(2, 4);
        Check.same("ways as before", maker.ways(), ways);
        Check.same("there are some", ways > 0, true);
    }

    private static void waysNoneToAll() {
        Tilehold none = new Tilehold();
        for (int cells = 1; cells <= 4; cells++) {
            none.setSize(cells, 1);
            Check.same("ways of " + cells + " cells without tiles", none.ways(), 0);
        }
        Tilehold one = Maker.alikeTiles(1);
        for (int cells = 1; cells <= 4; cells++) {
            one.setSize(1, cells);
            Check.same("ways of " + cells + " cells with one tile", one.ways(), 1);
        }
        one.ban(3, 0);
        Check.same("with its ban", one.ways(), 0);
        one.soften(3);
        one.fix(3, 0);
        Check.same("with it fixed", one.ways(), 1);
        Tilehold unfit = Maker.of(RIGHTWARD);
        unfit.setSize(1, 4);
        Check.same("it fits below itself", unfit.ways(), 1);
        unfit.setSize(2, 1);
        Check.same("it does not fit beside itself", unfit.ways(), 0);
        unfit.setSize(1, 1);
        Check.same("alone", unfit.ways(), 1);
    }

    /** Four cells of two tiles: 1, 4, 6, 4 and 1 ways have none to four of a tile. */
    private static void waysWithWishesForCounts() {
        int[] upTo = {1, 5, 11, 15, 16};
        for (int tile = 0; tile < 2; tile++) {
            for (int[] size : new int[][] {{2, 2}, {4, 1}, {1, 4}}) {
                Tilehold maker = Maker.alikeTiles(2);
                maker.setSize(size[0], size[1]);
                for (int most = 0; most <= 4; most++) {
                    maker.setMost(tile, most);
                    Check.same("ways with " + most + " at most", maker.ways(), upTo[most]);
                }
                maker.setMost(tile, 36);
                Check.same("ways with 36 at most", maker.ways(), 16);
                maker.setMost(tile, 1);
                maker.setMost(1 - tile, 2);
                Check.same("ways that two wishes rule out", maker.ways(), 0);
                maker.setMost(1 - tile, 3);
                Check.same("ways that two wishes leave", maker.ways(), 4);
            }
        }
    }

    private static void waysWithOneRoad() {
        Tilehold maker = Maker.of(PLAIN, UPWARD);
        maker.setRoad(true);
        for (int cells = 1; cells <= 4; cells++) {
            maker.setSize(cells, 1);
            Check.same("none or one of " + cells + " cells", maker.ways(), 1 + cells);
        }
        Tilehold pairs = Maker.of(PLAIN, RIGHTWARD, LEFTWARD);
        pairs.setSize(2, 2);
        Check.same("each row of five ways", pairs.ways(), 25);
        pairs.setRoad(true);
        Check.same("those with one road at most", pairs.ways(), 7);
    }

    // Promise 19.

    private static void roadsWithoutFilling() {
        for (Past past : new Past[] {Past.NEW, Past.GIVEN_UP}) {
            past.refuses("roads()", STATE, Tilehold::roads);
        }
    }

    private static Tilehold fixed(Tilehold maker, int width, int height, int[] tiles) {
        maker.setSize(width, height);
        for (int cell = 0; cell < tiles.length; cell++) {
            maker.fix(cell, tiles[cell]);
        }
        Check.same("fill", maker.fill(0), 'd');
        return maker;
    }

    private static void roadsNoneToMany() {
        Check.same("no road in 36 cells", fixed(Maker.of(PLAIN), 6, 6, new int[0]).roads(), 0);
        int[] all = {1, 1, 1, 1, 1};
        Check.same("one road in 36 cells", fixed(Maker.of(all), 6, 6, new int[0]).roads(), 1);
        Check.same("one road in one cell", fixed(Maker.of(all), 1, 1, new int[0]).roads(), 1);
        for (int many = 0; many <= 6; many++) {
            int[] tiles = new int[6];
            Arrays.fill(tiles, 0, many, 1);
            Check.same(many + " roads", fixed(Maker.of(PLAIN, UPWARD), 6, 1, tiles).roads(), many);
        }
        // Each rim cell has a road outward, and the 16 others have one in pairs.
        int[] most = {
            0, 0, 0, 0, 0, 0,
            3, 1, 3, 1, 3, 1,
            3, 1, 3, 1, 3, 1,
            3, 1, 3, 1, 3, 1,
            3, 1, 3, 1, 3, 1,
            2, 2, 2, 2, 2, 2};
        Check.same("28 roads in 36 cells",
                fixed(Maker.of(UPWARD, RIGHTWARD, DOWNWARD, LEFTWARD), 6, 6, most).roads(), 28);
    }

    /** Rows of roads are as many pieces as there are rows, columns as many as columns: ends don't meet. */
    private static void roadsInRowsAndColumns() {
        for (int width = 1; width <= 6; width++) {
            for (int height = 1; height <= 6; height++) {
                Check.same("rows", fixed(Maker.of(new int[] {0, 1, 0, 1, 1}), width, height, new int[0]).roads(),
                        height);
                Check.same("columns", fixed(Maker.of(new int[] {1, 0, 1, 0, 1}), width, height, new int[0]).roads(),
                        width);
            }
        }
    }

    public static void main(String[] arguments) {
        Check.sentence("11", "Throws IndexOutOfBoundsException if there is no such cell",
                BoundsOfFillingTest::optionsCells);
        Check.sentence("12", "Throws IndexOutOfBoundsException if there is no such cell",
                BoundsOfFillingTest::optionsAnewCells);
        Check.sentence("11, 12", "Returns how many tiles are possible in a cell",
                BoundsOfFillingTest::optionsNoneToAll);
        Check.sentence("11, 12", "when all is narrowed", BoundsOfFillingTest::optionsFromEndToEnd);
        Check.sentence("11, 12", "when all is narrowed", BoundsOfFillingTest::optionsWithoutWishes);

        Check.sentence("13", "Throws IllegalArgumentException if the limit is out of range",
                BoundsOfFillingTest::limitsRefused);
        Check.sentence("13", "Throws IllegalStateException if there are no tiles",
                BoundsOfFillingTest::noTilesRefused);
        Check.sentence("13", "how many guesses are taken back at most, 0 to 200", BoundsOfFillingTest::limitRange);
        Check.sentence("13", "Fills the world, which is filled if this ends with 'd', and not otherwise",
                BoundsOfFillingTest::filledOnlyWithD);
        Check.sentence("13", "a call that adds a tile, makes a new world, fixes, bans or softens, or sets a wish or "
                + "the seed makes it one that is not filled", BoundsOfFillingTest::whatMakesItNotFilled);
        Check.sentence("14", "Returns whether the world is filled.", BoundsOfFillingTest::whatLeavesItFilled);

        Check.sentence("15", "Throws IndexOutOfBoundsException if there is no such cell",
                BoundsOfFillingTest::tileAtCells);
        Check.sentence("15", "Throws IllegalStateException if the world is not filled",
                BoundsOfFillingTest::tileAtWithoutFilling);
        Check.sentence("15", "Returns the tile of a cell.", BoundsOfFillingTest::tileAtFirstAndLast);

        Check.sentence("16", "Returns how many guesses the last call of fill() made, 0 without one.",
                BoundsOfFillingTest::guessesNoneToMany);
        Check.sentence("17", "Returns how many guesses the last call of fill() took back, 0 without one.",
                BoundsOfFillingTest::takenBackNoneToMany);

        Check.sentence("18", "if it has more than 4 cells", BoundsOfFillingTest::waysOfUpToFourCells);
        Check.sentence("18", "Throws UnsupportedOperationException if it has more than 4 cells",
                BoundsOfFillingTest::waysRefused);
        Check.sentence("18", "Returns in how many ways the world can be filled", BoundsOfFillingTest::waysNoneToAll);
        Check.sentence("18", "with all wishes", BoundsOfFillingTest::waysWithWishesForCounts);
        Check.sentence("18", "with all wishes", BoundsOfFillingTest::waysWithOneRoad);

        Check.sentence("19", "Throws IllegalStateException if the world is not filled",
                BoundsOfFillingTest::roadsWithoutFilling);
        Check.sentence("19", "Returns how many pieces of road the filled world has.",
                BoundsOfFillingTest::roadsNoneToMany);
        Check.sentence("19", "how many pieces", BoundsOfFillingTest::roadsInRowsAndColumns);
        Check.end();
    }
}
