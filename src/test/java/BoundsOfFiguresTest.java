/** The sentences of promises 25 to 28 that name a boundary case; SoundTest has what calls alone can't bring about. */
public final class BoundsOfFiguresTest {
    private static final Class<IllegalStateException> STATE = IllegalStateException.class;

    private static final int[] PLAIN = {0, 0, 0, 0, 1};
    private static final int[] UPWARD = {1, 0, 0, 0, 1};

    // Promise 25.

    private static void worldSumWithoutFilling() {
        for (Past past : new Past[] {Past.NEW, Past.GIVEN_UP}) {
            past.refuses("worldSum()", STATE, Tilehold::worldSum);
        }
    }

    private static void worldSumLeastAndMost() {
        for (int width = 1; width <= 6; width++) {
            for (int height = 1; height <= 6; height++) {
                for (int tile : new int[] {0, 7}) {
                    Tilehold maker = Maker.alikeTiles(8);
                    int cells = maker.setSize(width, height);
                    long due = 0;
                    for (int cell = 0; cell < cells; cell++) {
                        maker.fix(cell, tile);
                        due += (tile + 1) * (cell + 1) * (cell + 1);
                    }
                    maker.fill(0);
                    Check.same("worldSum of " + cells + " cells with tile " + tile, maker.worldSum(), due);
                }
            }
        }
        Tilehold maker = Maker.alikeTiles(1);
        maker.setSize(1, 1);
        maker.fill(0);
        Check.same("the least one", maker.worldSum(), 1);
    }

    /** One cell of another tile: it is the cell's number plus 1 that is squared, not the tile's. */
    private static void worldSumOfEachCell() {
        for (int other = 0; other < 36; other++) {
            Tilehold maker = Maker.alikeTiles(8);
            maker.setSize(6, 6);
            for (int cell = 0; cell < 36; cell++) {
                maker.fix(cell, cell == other ? 7 : 0);
            }
            maker.fill(0);
            long due = 16206 + 7 * (other + 1) * (other + 1);
            Check.same("worldSum with tile 7 in cell " + other, maker.worldSum(), due);
        }
    }

    // Promise 26.

    private static void meanOptionsNoneToAll() {
        Tilehold maker = new Tilehold();
        for (int side : new int[] {1, 6}) {
            maker.setSize(side, side);
            Check.same("without tiles", maker.meanOptions(), 0.0);
        }
        for (int tiles = 1; tiles <= 8; tiles++) {
            maker.addTile(0, 0, 0, 0, 9);
            for (int side : new int[] {1, 3, 6}) {
                maker.setSize(side, side);
                Check.same("all of " + tiles, maker.meanOptions(), (double) tiles);
            }
        }
        for (int tile = 0; tile < 8; tile++) {
            maker.ban(35, tile);
            double due = tile == 7 ? 0.0 : (double) (36 * 8 - tile - 1) / 36.0;
            Check.same("with bans in the last cell", maker.meanOptions(), due);
        }
    }

    /** Every number of cells divides a sum that it does not go into: a double's digits are due, not a float's. */
    private static void meanOptionsOfAllSizes() {
        for (int width = 1; width <= 6; width++) {
            for (int height = 1; height <= 6; height++) {
                Tilehold maker = Maker.alikeTiles(8);
                int cells = maker.setSize(width, height);
                maker.fix(cells - 1, 0);
                Check.same("one of " + cells + " cells is fixed", maker.meanOptions(),
                        (double) (8 * (cells - 1) + 1) / (double) cells);
                for (int cell = 0; cell < cells; cell++) {
                    maker.fix(cell, 7);
                }
                Check.same("all of " + cells + " cells are fixed", maker.meanOptions(), 1.0);
            }
        }
        Tilehold narrowed = Maker.byTurns();
        narrowed.setSize(6, 6);
        Check.same("nothing is narrowed", narrowed.meanOptions(), 2.0);
        narrowed.fix(0, 0);
        Check.same("all is narrowed", narrowed.meanOptions(), 1.0);
    }

    // Promise 27.

    private static void roadShareWithoutFilling() {
        for (Past past : new Past[] {Past.NEW, Past.GIVEN_UP}) {
            past.refuses("roadShare()", STATE, Tilehold::roadShare);
        }
    }

    private static void roadShareNoneToAll() {
        for (int cells = 1; cells <= 6; cells++) {
            for (int roads = 0; roads <= cells; roads++) {
                Tilehold maker = Maker.of(PLAIN, UPWARD);
                maker.setSize(cells, 1);
                for (int cell = 0; cell < cells; cell++) {
                    maker.fix(cell, cell < cells - roads ? 0 : 1);
                }
                maker.fill(0);
                Check.same(roads + " of " + cells, maker.roadShare(), (float) roads / (float) cells);
            }
        }
        Tilehold maker = Maker.of(PLAIN, UPWARD);
        maker.setSize(6, 6);
        for (int cell = 0; cell < 36; cell++) {
            maker.fix(cell, 0);
        }
        maker.fill(0);
        Check.same("none of 36", maker.roadShare(), 0.0f);
        maker.fix(0, 1);
        maker.fill(0);
        Check.same("1 of 36", maker.roadShare(), 1.0f / 36.0f);
        Tilehold all = Maker.of(new int[] {1, 1, 1, 1, 1});
        all.setSize(6, 6);
        all.fill(0);
        Check.same("36 of 36", all.roadShare(), 1.0f);
    }

    /** A tile counts once, with a road on one edge or on all four. */
    private static void roadShareOfSomeEdge() {
        for (int bits = 0; bits < 16; bits++) {
            Tilehold maker = Maker.of(new int[] {bits & 1, bits >> 1 & 1, bits >> 2 & 1, bits >> 3 & 1, 1});
            maker.setSize(1, 1);
            maker.fill(0);
            Check.same("edges " + bits, maker.roadShare(), bits == 0 ? 0.0f : 1.0f);
        }
    }

    // Promise 28.

    private static void soundNoneToAll() {
        for (Past past : Past.values()) {
            Tilehold maker = past.make();
            Check.same(past + " is sound", maker.isSound(), true);
            String[] got = new Told(maker, past).all();
            String[] left = new Told(past.make(), past).all();
            for (int line = 0; line < left.length; line++) {
                Check.same(past + ": isSound changes nothing, " + line, got[line], left[line]);
            }
        }
        Tilehold vain = Maker.alikeTiles(2);
        vain.ban(0, 0);
        vain.ban(0, 1);
        vain.fill(200);
        Check.same("when nothing is possible", vain.isSound(), true);
    }

    /** Near chunks are filled anew, far ones are not; neither makes a difference to what is kept. */
    private static void soundWithNearChunks() {
        for (int x = -2; x <= 2; x++) {
            Tilehold maker = Past.FILLED.make();
            maker.forget();
            for (int y = -2; y <= 2; y++) {
                maker.visit(x, y);
                Check.same("isSound", maker.isSound(), true);
                Check.same("chunks", maker.chunks(), y + 3);
            }
            Check.same("isFilled", maker.isFilled(), true);
        }
    }

    public static void main(String[] arguments) {
        Check.sentence("25", "Throws IllegalStateException if the world is not filled",
                BoundsOfFiguresTest::worldSumWithoutFilling);
        Check.sentence("25", "Returns the sum, over all cells, of the tile plus 1, times the square of the cell plus "
                + "1.", BoundsOfFiguresTest::worldSumLeastAndMost);
        Check.sentence("Clarifications", "In worldSum(), it is the number of the cell plus 1 that is squared.",
                BoundsOfFiguresTest::worldSumOfEachCell);
        Check.sentence("26", "Returns the mean number of tiles that are possible in a cell when all is narrowed.",
                BoundsOfFiguresTest::meanOptionsNoneToAll);
        Check.sentence("26", "Returns their sum divided by the number of cells, both converted to double.",
                BoundsOfFiguresTest::meanOptionsOfAllSizes);
        Check.sentence("27", "Throws IllegalStateException if the world is not filled",
                BoundsOfFiguresTest::roadShareWithoutFilling);
        Check.sentence("27", "Returns their number divided by that of all cells, both converted to float.",
                BoundsOfFiguresTest::roadShareNoneToAll);
        Check.sentence("27", "whose tile has a road on some edge", BoundsOfFiguresTest::roadShareOfSomeEdge);
        Check.sentence("28", "Returns whether all is sound", BoundsOfFiguresTest::soundNoneToAll);
        Check.sentence("28", "each kept chunk whose x and y are from -1 to 1",
                BoundsOfFiguresTest::soundWithNearChunks);
        Check.end();
    }
}
