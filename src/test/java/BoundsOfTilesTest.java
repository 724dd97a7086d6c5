import java.util.NoSuchElementException;

/** The sentences of promises 1 to 10 that name a boundary case. */
public final class BoundsOfTilesTest {
    private static final Class<IllegalArgumentException> ILLEGAL = IllegalArgumentException.class;
    private static final Class<IllegalStateException> STATE = IllegalStateException.class;
    private static final Class<IndexOutOfBoundsException> INDEX = IndexOutOfBoundsException.class;
    private static final Class<NoSuchElementException> NO_SUCH = NoSuchElementException.class;

    // Promise 1.

    private static void newObject() {
        Tilehold maker = new Tilehold();
        for (int cell = 0; cell < 9; cell++) {
            Check.same("options", maker.options(cell), 0);
            Check.same("optionsAnew", maker.optionsAnew(cell), 0);
        }
        Check.same("meanOptions", maker.meanOptions(), 0.0);
        Check.same("isFilled", maker.isFilled(), false);
        Check.same("guesses", maker.guesses(), 0);
        Check.same("takenBack", maker.takenBack(), 0);
        Check.same("chunks", maker.chunks(), 0);
        Check.same("isSound", maker.isSound(), true);
        Check.same("forget", maker.forget(), 0);
        Check.same("setRoad", maker.setRoad(true), false);
        Check.same("setSeed", maker.setSeed(1), 0);
        for (int cell = 0; cell < 9; cell++) {
            Check.same("soften", maker.soften(cell), 0);
        }
        for (int tile = 0; tile < 8; tile++) {
            Check.same("addTile", maker.addTile(0, 0, 0, 0, 1), tile);
            Check.same("setMost", maker.setMost(tile, 0), -1);
        }
        for (int cell = 0; cell < 9; cell++) {
            Check.same("fix", maker.fix(cell, 0), -1);
            for (int tile = 0; tile < 8; tile++) {
                Check.same("ban", maker.ban(cell, tile), false);
            }
        }
    }

    private static void newObjectRefuses() {
        Past.NEW.refuses("fix(0, 0)", NO_SUCH, maker -> maker.fix(0, 0));
        Past.NEW.refuses("ban(0, 0)", NO_SUCH, maker -> maker.ban(0, 0));
        Past.NEW.refuses("setMost(0, 0)", NO_SUCH, maker -> maker.setMost(0, 0));
        Past.NEW.refuses("areFitting(0, 0, 0)", NO_SUCH, maker -> maker.areFitting(0, 0, 0));
        Past.NEW.refuses("fill(0)", STATE, maker -> maker.fill(0));
        Past.NEW.refuses("tileAt(0)", STATE, maker -> maker.tileAt(0));
        Past.NEW.refuses("ways()", UnsupportedOperationException.class, Tilehold::ways);
        Past.NEW.refuses("roads()", STATE, Tilehold::roads);
        Past.NEW.refuses("visit(0, 0)", STATE, maker -> maker.visit(0, 0));
        Past.NEW.refuses("chunkTile(0, 0, 0)", NO_SUCH, maker -> maker.chunkTile(0, 0, 0));
        Past.NEW.refuses("worldSum()", STATE, Tilehold::worldSum);
        Past.NEW.refuses("roadShare()", STATE, Tilehold::roadShare);
    }

    private static void objectsApart() {
        Tilehold full = Past.FULL.make();
        int options = full.options(17);
        Tilehold maker = new Tilehold();
        Check.same("options of another object", maker.options(8), 0);
        Check.same("chunks of another object", maker.chunks(), 0);
        Check.same("isFilled of another object", maker.isFilled(), false);
        maker.setSize(1, 1);
        maker.addTile(1, 1, 1, 1, 1);
        maker.setSeed(5);
        Check.same("options of the first one", full.options(17), options);
        Check.same("isFilled of the first one", full.isFilled(), true);
        Check.same("setSeed of the first one", full.setSeed(0), 99999);
    }

    // Promise 2.

    private static void addTileRanges() {
        for (int place = 0; place < 5; place++) {
            int least = place == 4 ? 1 : 0;
            int most = place == 4 ? 9 : 3;
            for (int taken : new int[] {least, most}) {
                int[] tile = {0, 0, 0, 0, 1};
                tile[place] = taken;
                Check.same("addTile with " + taken + " at place " + place,
                        new Tilehold().addTile(tile[0], tile[1], tile[2], tile[3], tile[4]), 0);
            }
            for (int wrong : Maker.outOf(least, most)) {
                int[] tile = {0, 1, 2, 3, 5};
                tile[place] = wrong;
                for (Past past : Past.values()) {
                    past.refuses("addTile with " + wrong + " at place " + place, ILLEGAL,
                            maker -> maker.addTile(tile[0], tile[1], tile[2], tile[3], tile[4]));
                }
            }
        }
        Past.FILLED.refuses("addTile with all wrong", ILLEGAL, maker -> maker.addTile(-1, 4, -1, 4, 0));
    }

    /** With the least and the greatest weight, the greater one has nine of ten remainders, wherever it stands. */
    private static void weightsAtTheEnds() {
        for (int rest = 0; rest < 10; rest++) {
            Tilehold lightFirst = Maker.alike(1, 9);
            Tilehold heavyFirst = Maker.alike(9, 1);
            for (Tilehold maker : new Tilehold[] {lightFirst, heavyFirst}) {
                maker.setSize(1, 1);
                maker.setSeed(Maker.seedFor(rest, 10));
                maker.fill(0);
            }
            Check.same("weights 1 and 9, " + rest, lightFirst.tileAt(0), rest < 1 ? 0 : 1);
            Check.same("weights 9 and 1, " + rest, heavyFirst.tileAt(0), rest < 9 ? 0 : 1);
        }
    }

    private static void addTileNumbers() {
        Tilehold maker = new Tilehold();
        for (int tile = 0; tile < 8; tile++) {
            int number = tile;
            Check.throwsOnly("a tile ahead of its time", NO_SUCH, () -> maker.fix(0, number));
            Check.same("addTile", maker.addTile(3, 0, 3, 0, 9), tile);
            Check.same("fix of the last one", maker.fix(0, tile), tile - 1);
            Check.same("options", maker.options(1), tile + 1);
        }
        Check.throwsOnly("tile 8", NO_SUCH, () -> maker.fix(0, 8));
    }

    private static void addTileWithEight() {
        Past.FULL.refuses("addTile(0, 0, 0, 0, 1)", STATE, maker -> maker.addTile(0, 0, 0, 0, 1));
        Past.FULL.refuses("addTile(3, 3, 3, 3, 9)", STATE, maker -> maker.addTile(3, 3, 3, 3, 9));
        Tilehold seven = Past.FILLED.make();
        Check.same("the eighth", seven.addTile(3, 3, 3, 3, 9), 7);
        Check.throwsOnly("the ninth", STATE, () -> seven.addTile(3, 3, 3, 3, 9));
    }

    // Promise 3.

    private static void seedRange() {
        Tilehold maker = new Tilehold();
        Check.same("0 at first", maker.setSeed(0), 0);
        Check.same("the greatest", maker.setSeed(99999), 0);
        Check.same("the least", maker.setSeed(0), 99999);
        Check.same("one", maker.setSeed(1), 0);
        Check.same("the greatest but one", maker.setSeed(99998), 1);
        Check.same("the last one is kept", maker.setSeed(0), 99998);
        for (int wrong : Maker.outOf(0, 99999)) {
            for (Past past : Past.values()) {
                past.refuses("setSeed(" + wrong + ")", ILLEGAL, other -> other.setSeed(wrong));
            }
        }
    }

    private static void seedAtFirst() {
        for (int seed : new int[] {0, 99999}) {
            Tilehold maker = Maker.alike(9, 9, 9, 9, 9, 9, 9, 9);
            maker.setSize(6, 6);
            if (seed != 0) {
                maker.setSeed(seed);
            }
            maker.fill(0);
            for (int cell = 0; cell < 36; cell++) {
                Check.same("seed " + seed + ", cell " + cell, maker.tileAt(cell),
                        Maker.drawn(seed, cell + 1) % 72 / 9);
            }
        }
    }

    // Promise 4.

    private static void sizeRange() {
        for (int width = 1; width <= 6; width++) {
            for (int height = 1; height <= 6; height++) {
                Tilehold maker = Maker.alikeTiles(1);
                int cells = width * height;
                Check.same("setSize(" + width + ", " + height + ")", maker.setSize(width, height), cells);
                Check.same("the first cell", maker.options(0), 1);
                Check.same("the last cell", maker.options(cells - 1), 1);
                Check.throwsOnly("the one after the last", INDEX, () -> maker.options(cells));
            }
        }
    }

    private static void sizesRefused() {
        for (Past past : Past.values()) {
            for (int wrong : Maker.outOf(1, 6)) {
                past.refuses("setSize(" + wrong + ", 2)", ILLEGAL, maker -> maker.setSize(wrong, 2));
                past.refuses("setSize(2, " + wrong + ")", ILLEGAL, maker -> maker.setSize(2, wrong));
                past.refuses("setSize(" + wrong + ", " + wrong + ")", ILLEGAL, maker -> maker.setSize(wrong, wrong));
            }
            int[][] products = {{-3, -3}, {-1, -9}, {65536, 65536}, {1 << 30, 4}, {4, 1 << 30},
                {Integer.MIN_VALUE, Integer.MIN_VALUE}, {-1, Integer.MIN_VALUE}, {65537, 65537}, {12, 3}, {36, 1},
                {1, 36}, {1, 9}, {9, 1}, {0, 0}, {Integer.MAX_VALUE, Integer.MAX_VALUE}};
            for (int[] size : products) {
                past.refuses("setSize(" + size[0] + ", " + size[1] + ")", ILLEGAL,
                        maker -> maker.setSize(size[0], size[1]));
            }
        }
    }

    private static void newWorld() {
        int[][] sizes = {{6, 6}, {1, 1}, {6, 6}, {3, 3}, {3, 3}, {1, 6}, {6, 1}, {6, 6}};
        Tilehold maker = Maker.alikeTiles(8);
        maker.setMost(0, 0);
        maker.setMost(7, 36);
        maker.setRoad(true);
        for (int[] size : sizes) {
            int cells = maker.setSize(size[0], size[1]);
            Check.same("the first cell of the new world", maker.options(0), 8);
            Check.same("its last cell", maker.options(cells - 1), 8);
            Check.same("fixed or banned in the first cell", maker.soften(0), 0);
            Check.same("fixed or banned in the last cell", maker.soften(cells - 1), 0);
            for (int cell : new int[] {0, cells - 1}) {
                maker.fix(cell, 7);
                for (int tile = 0; tile < 8; tile++) {
                    maker.ban(cell, tile);
                }
                Check.same("options then", maker.options(cell), 0);
            }
        }
        Check.same("the wish of tile 0 stays", maker.setMost(0, -1), 0);
        Check.same("the wish of tile 7 stays", maker.setMost(7, -1), 36);
        Check.same("the wish of one road stays", maker.setRoad(false), true);
    }

    // Promise 5.

    /** Cells that are not there, ahead of tiles that are not there either. */
    private static void cellsRefused() {
        for (Past past : Past.values()) {
            for (int cell : Maker.outOf(0, past.cells - 1)) {
                for (int tile : new int[] {0, -1, past.tiles, Integer.MAX_VALUE}) {
                    past.refuses("fix(" + cell + ", " + tile + ")", INDEX, maker -> maker.fix(cell, tile));
                }
            }
        }
    }

    private static void tilesRefused() {
        for (Past past : Past.values()) {
            for (int tile : Maker.outOf(0, past.tiles - 1)) {
                past.refuses("fix(0, " + tile + ")", NO_SUCH, maker -> maker.fix(0, tile));
                past.refuses("fix at the last cell of " + tile, NO_SUCH, maker -> maker.fix(past.cells - 1, tile));
            }
        }
    }

    private static void fixFirstAndLast() {
        Tilehold maker = Maker.alikeTiles(8);
        maker.setSize(6, 6);
        for (int cell : new int[] {0, 35}) {
            Check.same("none was fixed", maker.fix(cell, 0), -1);
            Check.same("tile 0 was fixed", maker.fix(cell, 7), 0);
            Check.same("tile 7 was fixed", maker.fix(cell, 7), 7);
            Check.same("and is the same", maker.fix(cell, 0), 7);
            Check.same("options", maker.options(cell), 1);
        }
        for (int cell = 1; cell < 35; cell++) {
            Check.same("the others", maker.options(cell), 8);
        }
        maker.fill(0);
        Check.same("the first cell's tile", maker.tileAt(0), 0);
        Check.same("the last cell's tile", maker.tileAt(35), 0);
        maker.setSize(1, 1);
        Check.same("the only cell", maker.fix(0, 7), -1);
        Check.same("all cells of a world", maker.fill(0), 'd');
        Check.same("the only cell's tile", maker.tileAt(0), 7);
    }

    // Promise 6.

    private static void bansRefused() {
        for (Past past : Past.values()) {
            for (int cell : Maker.outOf(0, past.cells - 1)) {
                for (int tile : new int[] {0, -1, past.tiles}) {
                    past.refuses("ban(" + cell + ", " + tile + ")", INDEX, maker -> maker.ban(cell, tile));
                }
            }
        }
    }

    private static void banTilesRefused() {
        for (Past past : Past.values()) {
            for (int tile : Maker.outOf(0, past.tiles - 1)) {
                past.refuses("ban(0, " + tile + ")", NO_SUCH, maker -> maker.ban(0, tile));
                past.refuses("ban at the last cell of " + tile, NO_SUCH, maker -> maker.ban(past.cells - 1, tile));
            }
        }
    }

    private static void banNoneToAll() {
        Tilehold maker = Maker.alikeTiles(8);
        maker.setSize(6, 1);
        for (int cell : new int[] {0, 5}) {
            for (int tile = 7; tile >= 0; tile--) {
                Check.same("it was not banned", maker.ban(cell, tile), false);
                Check.same("it was banned", maker.ban(cell, tile), true);
                Check.same("those that are left", maker.soften(3), 0);
                Check.same("options", maker.options(cell), tile);
            }
            Check.same("filling without a tile", maker.fill(200), 'n');
            Check.same("all were banned", maker.soften(cell), 8);
            Check.same("none is banned any more", maker.ban(cell, 0), false);
            maker.soften(cell);
        }
        maker.fix(0, 7);
        Check.same("a fixed one is not banned", maker.ban(0, 7), false);
        Check.same("options of a fixed and banned one", maker.options(0), 0);
        maker.fix(0, 6);
        Check.same("the ban stays", maker.ban(0, 7), true);
        Check.same("options of another fixed one", maker.options(0), 1);
    }

    // Promise 7.

    private static void softenRefused() {
        for (Past past : Past.values()) {
            for (int cell : Maker.outOf(0, past.cells - 1)) {
                past.refuses("soften(" + cell + ")", INDEX, maker -> maker.soften(cell));
            }
        }
    }

    private static void softenNoneToAll() {
        Tilehold maker = Maker.alikeTiles(8);
        maker.setSize(6, 6);
        for (int cell : new int[] {0, 35}) {
            for (int many = 0; many <= 8; many++) {
                for (int tile = 0; tile < many; tile++) {
                    maker.ban(cell, tile);
                }
                Check.same("banned ones", maker.soften(cell), many);
                Check.same("none any more", maker.soften(cell), 0);
                Check.same("options", maker.options(cell), 8);
            }
            maker.fix(cell, 0);
            maker.fix(cell, 7);
            Check.same("a fixed one, in place of another", maker.soften(cell), 1);
            maker.fix(cell, 0);
            for (int tile = 0; tile < 8; tile++) {
                maker.ban(cell, tile);
                maker.ban(cell, tile);
            }
            Check.same("a fixed one and all banned", maker.soften(cell), 9);
            Check.same("options after all", maker.options(cell), 8);
            Check.same("none is fixed", maker.fix(cell, 1), -1);
        }
        maker.ban(34, 2);
        maker.ban(1, 2);
        maker.soften(0);
        Check.same("the other cells keep theirs", maker.options(34) + maker.options(1) + maker.options(35), 7 + 7 + 1);
    }

    // Promise 8.

    private static void mostTilesRefused() {
        for (Past past : Past.values()) {
            for (int tile : Maker.outOf(0, past.tiles - 1)) {
                for (int most : new int[] {0, -1, 36, -2, 37}) {
                    past.refuses("setMost(" + tile + ", " + most + ")", NO_SUCH, maker -> maker.setMost(tile, most));
                }
            }
        }
    }

    private static void mostRefused() {
        for (Past past : new Past[] {Past.SMALLEST, Past.GIVEN_UP, Past.FILLED, Past.FULL}) {
            for (int most : Maker.outOf(-1, 36)) {
                past.refuses("setMost(0, " + most + ")", ILLEGAL, maker -> maker.setMost(0, most));
                past.refuses("setMost of the last tile, " + most, ILLEGAL,
                        maker -> maker.setMost(past.tiles - 1, most));
            }
        }
    }

    private static void mostRange() {
        Tilehold maker = Maker.alikeTiles(8);
        for (int tile : new int[] {0, 7}) {
            Check.same("no wish at first", maker.setMost(tile, -1), -1);
            Check.same("no wish then", maker.setMost(tile, 0), -1);
            Check.same("0 before", maker.setMost(tile, 36), 0);
            Check.same("36 before", maker.setMost(tile, 1), 36);
            Check.same("1 before", maker.setMost(tile, 35), 1);
            Check.same("35 before", maker.setMost(tile, -1), 35);
            Check.same("no wish again", maker.setMost(tile, 36), -1);
        }
        for (int tile = 1; tile < 7; tile++) {
            Check.same("the others have none", maker.setMost(tile, 0), -1);
        }
        maker.setSize(1, 1);
        Check.same("36 in a world of one cell", maker.setMost(0, 36), 36);
        Check.same("it holds", maker.fill(200), 'd');
    }

    // Promise 9.

    private static void roadWish() {
        Tilehold maker = new Tilehold();
        Check.same("none at first", maker.setRoad(false), false);
        Check.same("none then", maker.setRoad(true), false);
        Check.same("wished", maker.setRoad(true), true);
        Check.same("wished still", maker.setRoad(false), true);
        Check.same("none again", maker.setRoad(false), false);
    }

    // Promise 10.

    private static void fittingTilesRefused() {
        for (Past past : Past.values()) {
            for (int wrong : Maker.outOf(0, past.tiles - 1)) {
                for (int direction : new int[] {0, 3, -1, 4}) {
                    past.refuses("areFitting(" + wrong + ", 0, " + direction + ")", NO_SUCH,
                            maker -> maker.areFitting(wrong, 0, direction));
                    past.refuses("areFitting(0, " + wrong + ", " + direction + ")", NO_SUCH,
                            maker -> maker.areFitting(0, wrong, direction));
                }
            }
        }
    }

    private static void directionsRefused() {
        for (Past past : new Past[] {Past.SMALLEST, Past.GIVEN_UP, Past.FILLED, Past.FULL}) {
            for (int direction : Maker.outOf(0, 3)) {
                past.refuses("areFitting(0, 0, " + direction + ")", ILLEGAL,
                        maker -> maker.areFitting(0, 0, direction));
                past.refuses("areFitting of the last tile, " + direction, ILLEGAL,
                        maker -> maker.areFitting(past.tiles - 1, past.tiles - 1, direction));
            }
        }
    }

    /** Tile n has in direction d the two bits of n's number, turned, so that first and last ones are told apart. */
    private static void firstAndLastFit() {
        int[][] edges = new int[8][];
        for (int tile = 0; tile < 8; tile++) {
            edges[tile] = new int[] {tile & 3, tile >> 1 & 3, 3 - (tile & 3), tile >> 2, 1};
        }
        Tilehold maker = Maker.of(edges);
        for (int tile = 0; tile < 8; tile++) {
            for (int other = 0; other < 8; other++) {
                for (int direction = 0; direction < 4; direction++) {
                    Check.same("areFitting(" + tile + ", " + other + ", " + direction + ")",
                            maker.areFitting(tile, other, direction),
                            edges[tile][direction] == edges[other][(direction + 2) % 4]);
                }
            }
        }
    }

    public static void main(String[] arguments) {
        Check.sentence("1", "Creates a maker without tiles, fixed and banned tiles, wishes and chunks.",
                BoundsOfTilesTest::newObject);
        Check.sentence("1", "without tiles, fixed and banned tiles, wishes and chunks",
                BoundsOfTilesTest::newObjectRefuses);
        Check.sentence("1", "Creates a maker", BoundsOfTilesTest::objectsApart);

        Check.sentence("2", "Throws IllegalArgumentException if a number is out of range",
                BoundsOfTilesTest::addTileRanges);
        Check.sentence("2", "a weight from 1 to 9", BoundsOfTilesTest::weightsAtTheEnds);
        Check.sentence("2", "Returns its number.", BoundsOfTilesTest::addTileNumbers);
        Check.sentence("2", "Throws IllegalStateException if there are 8 tiles", BoundsOfTilesTest::addTileWithEight);

        Check.sentence("3", "Throws IllegalArgumentException if it is out of range", BoundsOfTilesTest::seedRange);
        Check.sentence("3", "Sets the seed, 0 at first.", BoundsOfTilesTest::seedAtFirst);

        Check.sentence("4", "Returns the number of its cells.", BoundsOfTilesTest::sizeRange);
        Check.sentence("4", "Throws IllegalArgumentException if a number is out of range",
                BoundsOfTilesTest::sizesRefused);
        Check.sentence("4", "Makes a new world without fixed and banned tiles; wishes stay.",
                BoundsOfTilesTest::newWorld);

        Check.sentence("5", "Throws IndexOutOfBoundsException if there is no such cell",
                BoundsOfTilesTest::cellsRefused);
        Check.sentence("5", "Throws NoSuchElementException if there is no such tile", BoundsOfTilesTest::tilesRefused);
        Check.sentence("5", "Returns the one that was fixed there, or -1.", BoundsOfTilesTest::fixFirstAndLast);

        Check.sentence("6", "Throws IndexOutOfBoundsException if there is no such cell",
                BoundsOfTilesTest::bansRefused);
        Check.sentence("6", "Throws NoSuchElementException if there is no such tile",
                BoundsOfTilesTest::banTilesRefused);
        Check.sentence("6", "Returns whether it was banned.", BoundsOfTilesTest::banNoneToAll);

        Check.sentence("7", "Throws IndexOutOfBoundsException if there is no such cell",
                BoundsOfTilesTest::softenRefused);
        Check.sentence("7", "Returns how many tiles were fixed and banned.", BoundsOfTilesTest::softenNoneToAll);

        Check.sentence("8", "Throws NoSuchElementException if there is no such tile",
                BoundsOfTilesTest::mostTilesRefused);
        Check.sentence("8", "Throws IllegalArgumentException if the number is out of range",
                BoundsOfTilesTest::mostRefused);
        Check.sentence("8", "the number of cells, 0 to 36, or -1 for no wish", BoundsOfTilesTest::mostRange);

        Check.sentence("9", "Returns whether it was.", BoundsOfTilesTest::roadWish);

        Check.sentence("10", "Throws NoSuchElementException if there is no such tile, for either",
                BoundsOfTilesTest::fittingTilesRefused);
        Check.sentence("10", "Throws IllegalArgumentException if there is no such direction",
                BoundsOfTilesTest::directionsRefused);
        Check.sentence("10", "Returns whether two tiles fit beside one another.", BoundsOfTilesTest::firstAndLastFit);
        Check.end();
    }
}
