import java.util.Arrays;
import java.util.NoSuchElementException;

/** The sentences of "Terms" that name a boundary case, but for those on chunks, which are in BoundsOfChunksTest. */
public final class BoundsOfTermsTest {
    private static final Class<IllegalArgumentException> ILLEGAL = IllegalArgumentException.class;
    private static final Class<IllegalStateException> STATE = IllegalStateException.class;
    private static final Class<IndexOutOfBoundsException> INDEX = IndexOutOfBoundsException.class;
    private static final Class<NoSuchElementException> NO_SUCH = NoSuchElementException.class;

    private static final int[] PLAIN = {0, 0, 0, 0, 1};
    private static final int[] UPWARD = {1, 0, 0, 0, 1};
    private static final int[] RIGHTWARD = {0, 1, 0, 0, 1};
    private static final int[] DOWNWARD = {0, 0, 1, 0, 1};
    private static final int[] LEFTWARD = {0, 0, 0, 1, 1};

    private static Tilehold laidOut(Tilehold maker, int width, int height, int... tiles) {
        maker.setSize(width, height);
        for (int cell = 0; cell < tiles.length; cell++) {
            maker.fix(cell, tiles[cell]);
        }
        return maker;
    }

    // Tiles.

    private static void eightTiles() {
        Tilehold maker = new Tilehold();
        for (int tile = 0; tile < 8; tile++) {
            Check.same("the number", maker.addTile(0, 0, 0, 0, 1), tile);
            Check.same("the last one is there", maker.areFitting(tile, tile, 0), true);
        }
        Check.throwsOnly("the ninth", STATE, () -> maker.addTile(0, 0, 0, 0, 1));
        Check.same("all eight", maker.options(0), 8);
    }

    /** Tile p has the colour p all round; the tile under test has the colour in one direction, others elsewhere. */
    private static void everyColourInEveryDirection() {
        for (int direction = 0; direction < 4; direction++) {
            for (int colour = 0; colour < 4; colour++) {
                int[] edges = new int[5];
                Arrays.fill(edges, (colour + 1) % 4);
                edges[direction] = colour;
                edges[4] = 1;
                Tilehold maker = Maker.of(new int[] {0, 0, 0, 0, 1}, new int[] {1, 1, 1, 1, 1},
                        new int[] {2, 2, 2, 2, 1}, new int[] {3, 3, 3, 3, 1}, edges);
                for (int other = 0; other < 4; other++) {
                    for (int way = 0; way < 4; way++) {
                        int due = way == direction ? colour : (colour + 1) % 4;
                        Check.same("beside " + other + " in direction " + way, maker.areFitting(4, other, way),
                                other == due);
                    }
                }
            }
        }
    }

    private static void touchingEdges() {
        Tilehold maker = Maker.of(new int[] {2, 1, 2, 3, 1}, new int[] {3, 3, 0, 3, 1});
        boolean[][] due = {{true, false, true, false}, {false, true, false, true}};
        for (int tile = 0; tile < 2; tile++) {
            for (int direction = 0; direction < 4; direction++) {
                Check.same("tile " + tile + " beside itself, direction " + direction,
                        maker.areFitting(tile, tile, direction), due[tile][direction]);
            }
        }
        Check.same("0 above, 1 below", maker.areFitting(0, 1, 2), false);
        Check.same("1 above, 0 below", maker.areFitting(1, 0, 2), false);
        Check.same("1 at the left, 0 at the right", maker.areFitting(1, 0, 1), true);
        Check.same("0 at the right, 1 at the left", maker.areFitting(0, 1, 3), true);
        Check.same("0 at the left, 1 at the right", maker.areFitting(0, 1, 1), false);
    }

    private static void colourOneIsARoad() {
        for (int colour = 0; colour < 4; colour++) {
            for (int direction = 0; direction < 4; direction++) {
                int[] edges = {0, 0, 0, 0, 1};
                edges[direction] = colour;
                Tilehold maker = laidOut(Maker.of(edges), 1, 1);
                maker.fill(0);
                Check.same("roads with colour " + colour, maker.roads(), colour == 1 ? 1 : 0);
                Check.same("roadShare with colour " + colour, maker.roadShare(), colour == 1 ? 1.0f : 0.0f);
            }
        }
    }

    // World.

    private static void threeEachAtFirst() {
        Tilehold maker = new Tilehold();
        Check.same("the last cell", maker.options(8), 0);
        Check.throwsOnly("the first one beyond", INDEX, () -> maker.options(9));
        rowsAndColumns(3, 3, false);
    }

    private static void rowsAndColumnsOfAllSizes() {
        for (int width = 1; width <= 6; width++) {
            for (int height = 1; height <= 6; height++) {
                rowsAndColumns(width, height, true);
            }
        }
    }

    /** Tiles that must be alike in a row, and then such that must be in a column: what is fixed narrows just these. */
    private static void rowsAndColumns(int width, int height, boolean isSet) {
        for (int fixed = 0; fixed < width * height; fixed++) {
            Tilehold rows = Maker.of(new int[] {0, 1, 0, 1, 1}, new int[] {0, 2, 0, 2, 1}, new int[] {0, 3, 0, 3, 1});
            Tilehold columns = Maker.of(new int[] {1, 0, 1, 0, 1}, new int[] {2, 0, 2, 0, 1});
            if (isSet) {
                Check.same("cells", rows.setSize(width, height), width * height);
                columns.setSize(width, height);
            }
            rows.fix(fixed, 2);
            columns.fix(fixed, 1);
            for (int cell = 0; cell < width * height; cell++) {
                String what = width + " by " + height + ", fixed " + fixed + ", options(" + cell + ")";
                int inRow = cell / width == fixed / width ? 1 : 3;
                int inColumn = cell % width == fixed % width ? 1 : 2;
                Check.same(what, rows.options(cell), inRow);
                Check.same(what + " anew", rows.optionsAnew(cell), inRow);
                Check.same(what + " in columns", columns.options(cell), inColumn);
                Check.same(what + " in columns anew", columns.optionsAnew(cell), inColumn);
            }
        }
    }

    private static void fixedOrAllLessBanned() {
        Tilehold maker = Maker.alikeTiles(7);
        maker.setSize(6, 6);
        for (int cell : new int[] {0, 35}) {
            Check.same("all", maker.options(cell), 7);
            for (int tile = 0; tile < 6; tile++) {
                maker.ban(cell, tile);
                Check.same("all less banned", maker.options(cell), 6 - tile);
            }
            maker.fix(cell, 6);
            Check.same("the fixed one, others banned", maker.options(cell), 1);
            maker.fix(cell, 5);
            Check.same("the fixed one is banned itself", maker.options(cell), 0);
            maker.soften(cell);
            for (int tile = 0; tile < 7; tile++) {
                maker.ban(cell, tile);
            }
            Check.same("all banned", maker.options(cell), 0);
            maker.soften(cell);
            maker.fix(cell, 0);
        }
        maker.ban(1, 3);
        maker.addTile(0, 0, 0, 0, 1);
        Check.same("a tile that comes later, where another is fixed", maker.options(0), 1);
        Check.same("a tile that comes later, where another is banned", maker.options(1), 7);
        Check.same("a tile that comes later", maker.options(34), 8);
    }

    /** By turns, one fixed cell tells all others, at the other end too; and one that is empty empties all. */
    private static void narrowingGoesAsFarAsItCan() {
        for (int fixed : new int[] {0, 5, 30, 35, 14}) {
            Tilehold maker = Maker.byTurns();
            maker.setSize(6, 6);
            Check.same("nothing to take", maker.options(35 - fixed), 2);
            maker.fix(fixed, 0);
            for (int cell = 0; cell < 36; cell++) {
                Check.same("options(" + cell + ")", maker.options(cell), 1);
                Check.same("optionsAnew(" + cell + ")", maker.optionsAnew(cell), 1);
            }
            maker.ban(fixed, 0);
            for (int cell = 0; cell < 36; cell++) {
                Check.same("options(" + cell + ") beside an empty one", maker.options(cell), 0);
                Check.same("optionsAnew(" + cell + ") beside an empty one", maker.optionsAnew(cell), 0);
            }
        }
    }

    /** Tile 0 leads to 1, 1 to 2, 2 to 3 and 3 to itself: by steps, each cell loses one tile more than the last. */
    private static void narrowingStepByStep() {
        int[] due = {4, 3, 2, 1, 1, 1};
        int[][] right = {{0, 1, 0, 0, 1}, {0, 2, 0, 1, 1}, {0, 3, 0, 2, 1}, {0, 3, 0, 3, 1}};
        for (int turn = 0; turn < 4; turn++) {
            Tilehold maker = new Tilehold();
            for (int[] tile : right) {
                maker.addTile(tile[(4 - turn) % 4], tile[(5 - turn) % 4], tile[(6 - turn) % 4],
                        tile[(7 - turn) % 4], 1);
            }
            maker.setSize(turn % 2 == 0 ? 6 : 1, turn % 2 == 0 ? 1 : 6);
            for (int cell = 0; cell < 6; cell++) {
                int along = turn < 2 ? cell : 5 - cell;
                Check.same("options, turned " + turn, maker.options(along), due[cell]);
                Check.same("optionsAnew, turned " + turn, maker.optionsAnew(along), due[cell]);
            }
        }
    }

    /**
     * Found by a search: if each cell is narrowed by what its neighbours had a round ago, tiles go for 108 rounds, far
     * more than there are cells. What is possible ahead of it is written in bits.
     */
    private static void narrowingForManyRounds() {
        int[][] tiles = {{3, 2, 1, 1, 1}, {3, 1, 2, 0, 1}, {2, 3, 2, 3, 1}, {1, 3, 1, 3, 1}, {1, 3, 1, 2, 1},
            {3, 0, 3, 0, 1}, {2, 3, 2, 3, 1}, {1, 2, 1, 3, 1}};
        int[] possible = {187, 115, 55, 115, 119, 118, 182, 63, 123, 191, 241, 254, 107, 47, 191, 123, 121, 180, 63,
            235, 115, 122, 111, 61, 180, 62, 239, 251, 55, 181, 231, 115, 229, 82, 165, 22};
        Tilehold maker = Maker.of(tiles);
        Model model = new Model();
        for (int[] tile : tiles) {
            model.addTile(tile[0], tile[1], tile[2], tile[3], tile[4]);
        }
        maker.setSize(6, 6);
        model.setSize(6, 6);
        for (int cell = 0; cell < 36; cell++) {
            for (int tile = 0; tile < 8; tile++) {
                if ((possible[cell] >> tile & 1) == 0) {
                    maker.ban(cell, tile);
                    model.ban(cell, tile);
                }
            }
        }
        int taken = 0;
        for (int cell = 0; cell < 36; cell++) {
            Check.same("options(" + cell + ")", maker.options(cell), model.options(cell));
            Check.same("optionsAnew(" + cell + ")", maker.optionsAnew(cell), model.options(cell));
            Check.same("something is left", model.options(cell) > 0, true);
            taken += Integer.bitCount(possible[cell]) - model.options(cell);
        }
        Check.same("much is taken", taken > 108, true);
        Check.same("fill", maker.fill(200), model.fill(200));
        Check.same("guesses", maker.guesses(), model.guesses());
    }

    private static void oneCellHasNoNeighbours() {
        Tilehold maker = Maker.of(new int[] {0, 1, 2, 3, 1}, new int[] {1, 2, 3, 0, 1});
        maker.setSize(1, 1);
        Check.same("options", maker.options(0), 2);
        Check.same("optionsAnew", maker.optionsAnew(0), 2);
        maker.setSize(2, 1);
        Check.same("options beside another", maker.options(0), 0);
        Check.same("optionsAnew beside another", maker.optionsAnew(1), 0);
    }

    // Drawing.

    private static Tilehold oneCell(int seed, int... weights) {
        Tilehold maker = Maker.alike(weights);
        maker.setSize(1, 1);
        maker.setSeed(seed);
        return maker;
    }

    /** The products of most seeds go round, to either sign. */
    private static void stateGoesRound() {
        int negative = 0;
        int positive = 0;
        for (int step = 0; step < 100; step++) {
            int seed = step < 50 ? step : 99950 + step - 50;
            Tilehold maker = oneCell(seed, 9, 8, 7, 6, 5, 4, 3, 2);
            negative += seed * 1103515245 + 12345 < 0 ? 1 : 0;
            positive += seed * 1103515245L + 12345 > Integer.MAX_VALUE && seed * 1103515245 + 12345 > 0 ? 1 : 0;
            int rest = Maker.drawn(seed, 1) % 44;
            int due = 0;
            for (int upTo = 9; upTo <= rest; upTo += 9 - due) {
                due++;
            }
            Check.same("fill", maker.fill(0), 'd');
            Check.same("the tile with seed " + seed, maker.tileAt(0), due);
        }
        Check.same("both signs", negative > 20 && positive > 20, true);
    }

    /** Each remainder from 0 to the greatest one, with the least and the greatest sum of weights. */
    private static void everyRemainder() {
        for (int rest = 0; rest < 72; rest++) {
            Tilehold maker = oneCell(Maker.seedFor(rest, 72), 9, 9, 9, 9, 9, 9, 9, 9);
            maker.fill(0);
            Check.same("the tile for " + rest + " of 72", maker.tileAt(0), rest / 9);
        }
        for (int rest = 0; rest < 2; rest++) {
            Tilehold maker = oneCell(Maker.seedFor(rest, 2), 1, 1);
            maker.fill(0);
            Check.same("the tile for " + rest + " of 2", maker.tileAt(0), rest);
        }
        int[] due = {0, 1, 1, 1, 1, 1, 1, 1, 1, 1, 2, 2};
        for (int rest = 0; rest < 12; rest++) {
            Tilehold maker = oneCell(Maker.seedFor(rest, 12), 1, 9, 2);
            maker.fill(0);
            Check.same("the tile for " + rest + " of 12", maker.tileAt(0), due[rest]);
        }
    }

    /** Of tiles with weights 9, 1, 9, 2, 9 the second and the fourth are possible, so there are three remainders. */
    private static void onlyPossibleOnesAreDrawn() {
        int[] due = {1, 3, 3};
        for (int rest = 0; rest < 3; rest++) {
            Tilehold maker = oneCell(Maker.seedFor(rest, 3), 9, 1, 9, 2, 9);
            maker.ban(0, 0);
            maker.ban(0, 2);
            maker.ban(0, 4);
            maker.fill(0);
            Check.same("the tile for " + rest + " of 3", maker.tileAt(0), due[rest]);
        }
    }

    // Wishes.

    private static void mostCellsOfATile() {
        for (int tile : new int[] {0, 7}) {
            for (int side : new int[] {1, 6}) {
                int cells = side * side;
                Tilehold maker = Maker.alikeTiles(8);
                maker.setSize(side, side);
                for (int cell = 0; cell < cells; cell++) {
                    maker.fix(cell, tile);
                }
                maker.setMost(tile, cells);
                Check.same(cells + " cells of " + cells, maker.fill(0), 'd');
                maker.setMost(tile, cells - 1);
                Check.same(cells + " cells of " + (cells - 1), maker.fill(200), 'n');
                maker.setMost(tile, 0);
                Check.same(cells + " cells of none", maker.fill(200), 'n');
                maker.setMost(tile, -1);
                maker.setMost(7 - tile, 0);
                Check.same("a wish for another tile", maker.fill(0), 'd');
            }
        }
    }

    private static void roadIs(String what, char due, int pieces, Tilehold maker) {
        Check.same(what + " without the wish", maker.fill(0), 'd');
        Check.same(what + ", pieces", maker.roads(), pieces);
        maker.setRoad(true);
        Check.same(what + " with the wish", maker.fill(0), due);
    }

    private static void oneRoad() {
        roadIs("no cell with a road", 'd', 0, laidOut(Maker.of(PLAIN, UPWARD), 2, 1, 0, 0));
        roadIs("one cell with a road, at the rim", 'd', 1, laidOut(Maker.of(PLAIN, UPWARD), 2, 1, 0, 1));
        roadIs("two side by side that don't touch", 'n', 2, laidOut(Maker.of(PLAIN, UPWARD), 2, 1, 1, 1));
        roadIs("two side by side that touch", 'd', 1, laidOut(Maker.of(RIGHTWARD, LEFTWARD), 2, 1, 0, 1));
        roadIs("two below one another that touch", 'd', 1, laidOut(Maker.of(DOWNWARD, UPWARD), 1, 2, 0, 1));
        roadIs("the first and the last cell", 'n', 2, laidOut(Maker.of(PLAIN, UPWARD, DOWNWARD), 2, 2, 1, 0, 0, 2));
        roadIs("the end of a row and the next one's beginning", 'n', 2,
                laidOut(Maker.of(PLAIN, RIGHTWARD, LEFTWARD), 3, 2, 0, 0, 1, 2, 0, 0));
        roadIs("the two ends of a row", 'n', 2, laidOut(Maker.of(PLAIN, RIGHTWARD, LEFTWARD), 3, 1, 2, 0, 1));
        roadIs("the two ends of a column", 'n', 2, laidOut(Maker.of(PLAIN, UPWARD, DOWNWARD), 1, 3, 1, 0, 2));
        roadIs("round a corner", 'd', 1, laidOut(Maker.of(PLAIN, RIGHTWARD, UPWARD, new int[] {0, 0, 1, 1, 1}),
                2, 2, 1, 3, 0, 2));
        roadIs("two pieces of two", 'n', 2, laidOut(Maker.of(RIGHTWARD, LEFTWARD), 2, 2, 0, 1, 0, 1));
    }

    /** A road that goes to and fro through all 36 cells is one; cut anywhere, it is two. */
    private static void theLongestRoad() {
        int[] across = {0, 1, 0, 1, 1};
        int[][] turns = {{0, 0, 1, 1, 1}, {1, 0, 0, 1, 1}, {0, 1, 1, 0, 1}, {1, 1, 0, 0, 1}};
        int[] snake = new int[36];
        for (int row = 0; row < 6; row++) {
            for (int column = 0; column < 6; column++) {
                boolean isFirst = column == (row % 2 == 0 ? 0 : 5);
                boolean isLast = column == (row % 2 == 0 ? 5 : 0);
                int turn = row % 2 == 0 ? (isLast ? 1 : 4) : (isLast ? 3 : 2);
                snake[6 * row + column] = isFirst && row > 0 || isLast && row < 5 ? turn : 0;
            }
        }
        Tilehold whole = laidOut(Maker.of(across, turns[0], turns[1], turns[2], turns[3]), 6, 6, snake);
        roadIs("through all cells", 'd', 1, whole);
        Check.same("roadShare", whole.roadShare(), 1.0f);
        snake[2] = 5;
        snake[3] = 6;
        roadIs("cut in two", 'n', 2, laidOut(Maker.of(across, turns[0], turns[1], turns[2], turns[3], LEFTWARD,
                RIGHTWARD), 6, 6, snake));
    }

    // Filling.

    private static void noTileIsPossible() {
        for (int cell : new int[] {0, 35}) {
            Tilehold maker = Maker.alikeTiles(2);
            maker.setSize(6, 6);
            maker.ban(cell, 0);
            Check.same("one is left", maker.fill(0), 'd');
            maker.ban(cell, 1);
            Check.same("none is left", maker.fill(200), 'n');
            Check.same("no guess", maker.guesses(), 0);
        }
    }

    /** In a cell of several tiles, none counts for a wish yet. */
    private static void moreAloneThanWished() {
        Tilehold maker = Maker.alikeTiles(2);
        maker.setSize(6, 1);
        maker.setMost(1, 2);
        maker.fix(0, 1);
        maker.fix(5, 1);
        Check.same("as many alone as wished", maker.fill(0), 'l');
        Check.same("it was not wrong ahead of guesses", maker.guesses() > 0, true);
        maker.fix(1, 1);
        Check.same("one more", maker.fill(200), 'n');
        Check.same("ahead of all guesses", maker.guesses(), 0);
        maker.soften(1);
        Check.same("as many, with takings back", maker.fill(200), 'd');
        for (int cell = 1; cell < 5; cell++) {
            Check.same("the others", maker.tileAt(cell), 0);
        }
    }

    private static void filledWithoutAGuess() {
        Tilehold maker = laidOut(Maker.of(PLAIN, UPWARD), 2, 1, 1, 1);
        Check.same("all alone, without the wish of one road", maker.fill(0), 'd');
        Check.same("no guess", maker.guesses(), 0);
        maker.setRoad(true);
        Check.same("all alone, two roads", maker.fill(200), 'n');
        Check.same("no guess then", maker.guesses(), 0);
        Check.same("nothing taken back", maker.takenBack(), 0);
        maker.setRoad(false);
        Check.same("no wish any more", maker.fill(0), 'd');
        Check.same("one tile, all cells", Maker.alike(1).fill(0), 'd');
    }

    /** With eight tiles of weight 1, the n-th number drawn tells which cell comes n-th. */
    private static void fewestFirstThenLowest() {
        int seed = 7;
        Tilehold maker = Maker.alikeTiles(8);
        maker.setSize(6, 1);
        maker.setSeed(seed);
        int[] bans = {0, 6, 5, 6, 0, 6};
        for (int cell = 0; cell < 6; cell++) {
            for (int tile = 0; tile < bans[cell]; tile++) {
                maker.ban(cell, tile);
            }
        }
        Check.same("fill", maker.fill(0), 'd');
        int[] order = {1, 3, 5, 2, 0, 4};
        for (int turn = 0; turn < 6; turn++) {
            int cell = order[turn];
            int many = 8 - bans[cell];
            Check.same("the tile of cell " + cell + ", which comes as number " + turn,
                    maker.tileAt(cell), bans[cell] + Maker.drawn(seed, turn + 1) % many);
        }
        Check.same("guesses", maker.guesses(), 6);
    }

    private static void aGuessNarrowsAll() {
        Tilehold maker = Maker.byTurns();
        maker.setSize(6, 6);
        Check.same("fill", maker.fill(0), 'd');
        Check.same("one guess for 36 cells", maker.guesses(), 1);
        Tilehold apart = Maker.alikeTiles(2);
        apart.setSize(6, 6);
        Check.same("fill, apart", apart.fill(0), 'd');
        Check.same("36 guesses for 36 cells", apart.guesses(), 36);
    }

    /**
     * The tiles lie by turns, and tile 0 is wished for one cell at most: guessed in the first cell, it comes to the
     * third as well. Taken back, it leaves the first cell the other tile, and with it one for each cell.
     */
    private static void whatWasPossibleComesBack() {
        Tilehold maker = Maker.byTurns();
        maker.setSize(3, 1);
        maker.setMost(0, 1);
        maker.setSeed(Maker.seedFor(0, 2));
        Check.same("the guess is wrong", maker.fill(0), 'l');
        Check.same("the other way is right", maker.fill(1), 'd');
        Check.same("guesses", maker.guesses(), 1);
        Check.same("takenBack", maker.takenBack(), 1);
        Check.same("the first cell", maker.tileAt(0), 1);
        Check.same("the second cell", maker.tileAt(1), 0);
        Check.same("the third cell", maker.tileAt(2), 1);
        maker.setMost(1, 1);
        Check.same("both ways are wrong", maker.fill(1), 'n');
        Check.same("guesses in vain", maker.guesses(), 1);
        maker.setSeed(Maker.seedFor(1, 2));
        maker.setMost(1, 2);
        Check.same("the first guess is right", maker.fill(0), 'd');
        Check.same("nothing is taken back", maker.takenBack(), 0);
    }

    /** Three cells, tile 0 wished for one of them: the guess in the last one alone is taken back, the others stay. */
    private static void onlyTheLatestGuessGoes() {
        int seed = 0;
        while (Maker.drawn(seed, 1) % 3 != 0 || Maker.drawn(seed, 2) % 3 != 1 || Maker.drawn(seed, 3) % 3 != 0) {
            seed++;
        }
        Tilehold maker = Maker.alikeTiles(3);
        maker.setSize(3, 1);
        maker.setMost(0, 1);
        maker.setSeed(seed);
        Check.same("one more should be taken back", maker.fill(0), 'l');
        Check.same("guesses until then", maker.guesses(), 3);
        Check.same("fill", maker.fill(1), 'd');
        Check.same("the first guess stays", maker.tileAt(0), 0);
        Check.same("the second guess stays", maker.tileAt(1), 1);
        Check.same("the third is drawn from the others, with the next number", maker.tileAt(2),
                1 + Maker.drawn(seed, 4) % 2);
        Check.same("guesses", maker.guesses(), 4);
        Check.same("takenBack", maker.takenBack(), 1);
    }

    /** Tile 0 is drawn for all 36 cells, but wished for 35 of them: the 36th guess goes alone, 35 still stand. */
    private static void asManyGuessesAsCells() {
        int seed = 0;
        for (int right = 0; right < 36; right++) {
            if (Maker.drawn(seed, right + 1) % 10 >= 9) {
                seed++;
                right = -1;
            }
        }
        Tilehold maker = Maker.alike(9, 1);
        maker.setSize(6, 6);
        maker.setSeed(seed);
        Check.same("without the wish", maker.fill(0), 'd');
        maker.setMost(0, 35);
        Check.same("limit 0", maker.fill(0), 'l');
        Check.same("guesses, limit 0", maker.guesses(), 36);
        Check.same("limit 1", maker.fill(1), 'd');
        Check.same("guesses, limit 1", maker.guesses(), 36);
        Check.same("takenBack, limit 1", maker.takenBack(), 1);
        for (int cell = 0; cell < 36; cell++) {
            Check.same("the tile of cell " + cell, maker.tileAt(cell), cell == 35 ? 1 : 0);
        }
    }

    /** Two roads are fixed apart, so no guess helps: with two tiles for each of some cells, all are taken back. */
    private static Tilehold twoRoadsAndFreeCells(int free) {
        Tilehold maker = Maker.of(PLAIN, UPWARD, DOWNWARD, PLAIN);
        maker.setSize(6, 2);
        maker.setRoad(true);
        for (int cell = 0; cell < 12; cell++) {
            maker.ban(cell, 1);
            maker.ban(cell, 2);
            if (cell >= free) {
                maker.ban(cell, 3);
            }
        }
        maker.soften(10);
        maker.fix(10, 2);
        maker.soften(11);
        maker.fix(11, 2);
        return maker;
    }

    private static void noGuessStands() {
        Tilehold none = twoRoadsAndFreeCells(0);
        Check.same("wrong at first, limit 0", none.fill(0), 'n');
        Check.same("wrong at first, limit 200", none.fill(200), 'n');
        for (int free = 1; free <= 7; free++) {
            Tilehold maker = twoRoadsAndFreeCells(free);
            int most = (1 << free) - 1;
            Check.same(most + " taken back of " + most, maker.fill(most), 'n');
            Check.same("takenBack", maker.takenBack(), most);
            Check.same("guesses", maker.guesses(), most);
            Check.same("a limit that is not reached", maker.fill(most + 1), 'n');
            Check.same("takenBack then", maker.takenBack(), most);
            Check.same(most + " taken back of " + (most - 1), maker.fill(most - 1), 'l');
            Check.same("takenBack at the limit", maker.takenBack(), most - 1);
        }
        Tilehold many = twoRoadsAndFreeCells(8);
        Check.same("255 to be taken back, limit 200", many.fill(200), 'l');
        Check.same("takenBack of 255", many.takenBack(), 200);
    }

    private static Tilehold manyToTakeBack(int seed) {
        Tilehold maker = Maker.of(new int[] {1, 0, 0, 0, 1}, new int[] {0, 0, 1, 0, 1}, new int[] {0, 0, 0, 0, 2});
        maker.setSize(5, 2);
        maker.setRoad(true);
        maker.setSeed(seed);
        return maker;
    }

    private static void asManyAsTheLimitTells() {
        Tilehold most = manyToTakeBack(108);
        Check.same("200 to be taken back, limit 200", most.fill(200), 'd');
        Check.same("takenBack", most.takenBack(), 200);
        Check.same("guesses", most.guesses(), 208);
        Check.same("200 to be taken back, limit 199", most.fill(199), 'l');
        Check.same("takenBack, limit 199", most.takenBack(), 199);
        Tilehold oneMore = manyToTakeBack(96);
        Check.same("201 to be taken back, limit 200", oneMore.fill(200), 'l');
        Check.same("takenBack of 201", oneMore.takenBack(), 200);
        Check.same("isFilled of 201", oneMore.isFilled(), false);
    }

    private static void nothingToTakeBack() {
        Tilehold maker = Maker.alikeTiles(8);
        maker.setSize(6, 6);
        Check.same("limit 0", maker.fill(0), 'd');
        Check.same("guesses", maker.guesses(), 36);
        Check.same("takenBack", maker.takenBack(), 0);
    }

    private static void everyFillingBeginsWithTheSeed() {
        Tilehold maker = Maker.alikeTiles(8);
        maker.setSize(6, 6);
        maker.setSeed(99999);
        maker.fill(0);
        long first = maker.worldSum();
        maker.fill(200);
        Check.same("worldSum of the next filling", maker.worldSum(), first);
        maker.setSeed(0);
        maker.fill(0);
        Check.same("with another seed it differs", maker.worldSum() != first, true);
    }

    // Exceptions.

    private static void theFirstDocumentedIsThrown() {
        Past.FULL.refuses("addTile out of range with 8 tiles", ILLEGAL, maker -> maker.addTile(0, 0, 0, 4, 1));
        Past.NEW.refuses("fix of no tile in no cell", INDEX, maker -> maker.fix(9, 0));
        Past.NEW.refuses("ban of no tile in no cell", INDEX, maker -> maker.ban(-1, 0));
        Past.FILLED.refuses("setMost out of range for no tile", NO_SUCH, maker -> maker.setMost(7, 37));
        Past.FILLED.refuses("areFitting of no tile in no direction", NO_SUCH, maker -> maker.areFitting(0, 7, 4));
        Past.NEW.refuses("fill out of range without tiles", ILLEGAL, maker -> maker.fill(201));
        Past.GIVEN_UP.refuses("tileAt of no cell in a world that is not filled", INDEX, maker -> maker.tileAt(4));
        Past.NEW.refuses("visit out of range without tiles", ILLEGAL, maker -> maker.visit(0, 51));
        Past.FULL.refuses("visit out of range with 30 kept", ILLEGAL, maker -> maker.visit(-51, 0));
        Past.FILLED.refuses("chunkTile out of range, not kept, no cell", ILLEGAL, maker -> maker.chunkTile(51, 0, 9));
        Past.FILLED.refuses("chunkTile not kept, no cell", NO_SUCH, maker -> maker.chunkTile(50, 0, 9));
        Past.FILLED.refuses("chunkTile not 'd', no cell", NO_SUCH, maker -> maker.chunkTile(0, 0, -1));
    }

    private static void whatThrowsChangesNothing() {
        Past.FILLED.refuses("addTile", ILLEGAL, maker -> maker.addTile(1, 1, 1, 1, 10));
        Past.FULL.refuses("addTile", STATE, maker -> maker.addTile(1, 1, 1, 1, 9));
        Past.FILLED.refuses("setSeed", ILLEGAL, maker -> maker.setSeed(100000));
        Past.FILLED.refuses("setSize", ILLEGAL, maker -> maker.setSize(6, 7));
        Past.FILLED.refuses("fix", INDEX, maker -> maker.fix(9, 1));
        Past.FILLED.refuses("fix", NO_SUCH, maker -> maker.fix(4, 7));
        Past.FILLED.refuses("ban", INDEX, maker -> maker.ban(9, 1));
        Past.FILLED.refuses("ban", NO_SUCH, maker -> maker.ban(2, 7));
        Past.FILLED.refuses("soften", INDEX, maker -> maker.soften(9));
        Past.FILLED.refuses("setMost", NO_SUCH, maker -> maker.setMost(7, 1));
        Past.FILLED.refuses("setMost", ILLEGAL, maker -> maker.setMost(5, 37));
        Past.FILLED.refuses("areFitting", ILLEGAL, maker -> maker.areFitting(0, 1, 4));
        Past.FILLED.refuses("options", INDEX, maker -> maker.options(9));
        Past.FILLED.refuses("optionsAnew", INDEX, maker -> maker.optionsAnew(9));
        Past.FILLED.refuses("fill", ILLEGAL, maker -> maker.fill(201));
        Past.NEW.refuses("fill", STATE, maker -> maker.fill(200));
        Past.FILLED.refuses("tileAt", INDEX, maker -> maker.tileAt(9));
        Past.GIVEN_UP.refuses("tileAt", STATE, maker -> maker.tileAt(0));
        Past.FILLED.refuses("ways", UnsupportedOperationException.class, Tilehold::ways);
        Past.GIVEN_UP.refuses("roads", STATE, Tilehold::roads);
        Past.FILLED.refuses("visit", ILLEGAL, maker -> maker.visit(51, 51));
        Past.FULL.refuses("visit", STATE, maker -> maker.visit(0, 0));
        Past.FILLED.refuses("chunkTile", NO_SUCH, maker -> maker.chunkTile(1, 1, 0));
        Past.FILLED.refuses("border", ILLEGAL, maker -> maker.border(0, 0, true, 3));
        Past.GIVEN_UP.refuses("worldSum", STATE, Tilehold::worldSum);
        Past.GIVEN_UP.refuses("roadShare", STATE, Tilehold::roadShare);
    }

    // The calls of an object.

    private static void theLastOfAllCalls() {
        Tilehold maker = Maker.alikeTiles(8);
        maker.setSize(6, 6);
        maker.fix(35, 6);
        for (int call = 10; call < 511; call++) {
            Check.same("call " + call, call % 2 == 0 ? maker.fill(200) == 'd' : maker.isSound(), true);
        }
        Check.same("call 511", maker.isFilled(), true);
        Check.same("call 512", maker.tileAt(35), 6);
    }

    public static void main(String[] arguments) {
        Check.sentence("Tiles", "At most 8 tiles are numbered from 0", BoundsOfTermsTest::eightTiles);
        Check.sentence("Tiles", "a tile has an edge in each direction, 0 up, 1 right, 2 down and 3 left, "
                + "each with a colour from 0 to 3", BoundsOfTermsTest::everyColourInEveryDirection);
        Check.sentence("Tiles", "Two tiles fit beside one another if the edges that touch have the same colour.",
                BoundsOfTermsTest::touchingEdges);
        Check.sentence("Tiles", "The colour 1 is a road.", BoundsOfTermsTest::colourOneIsARoad);

        Check.sentence("World", "3 each at first", BoundsOfTermsTest::threeEachAtFirst);
        Check.sentence("World", "A world has a width and a height from 1 to 6, 3 each at first; its cells are numbered "
                + "from 0, the first row from left to right, then the next one.",
                BoundsOfTermsTest::rowsAndColumnsOfAllSizes);
        Check.sentence("World", "What is possible in a cell is the fixed tile, or all tiles if there is none, less the "
                + "banned ones.", BoundsOfTermsTest::fixedOrAllLessBanned);
        Check.sentence("World", "Narrowing takes tiles away as long as it can",
                BoundsOfTermsTest::narrowingGoesAsFarAsItCan);
        Check.sentence("World", "Narrowing takes tiles away as long as it can", BoundsOfTermsTest::narrowingStepByStep);
        Check.sentence("World", "Narrowing takes tiles away as long as it can",
                BoundsOfTermsTest::narrowingForManyRounds);
        Check.sentence("World", "a tile is taken from a cell if in a neighbour no tile is possible that fits beside it",
                BoundsOfTermsTest::oneCellHasNoNeighbours);

        Check.sentence("Drawing", "a state s, an int, becomes (s * 1103515245 + 12345) & 2147483647, as ints go round",
                BoundsOfTermsTest::stateGoesRound);
        Check.sentence("Drawing", "the tile is the first one by rising numbers for which the sum of the weights up to "
                + "it, its own included, is greater than r", BoundsOfTermsTest::everyRemainder);
        Check.sentence("Drawing", "divided by the sum of the weights of these tiles",
                BoundsOfTermsTest::onlyPossibleOnesAreDrawn);

        Check.sentence("Wishes", "For each tile, there can be a wish of the most cells that have it.",
                BoundsOfTermsTest::mostCellsOfATile);
        Check.sentence("Wishes", "all cells whose tile has a road on some edge are connected by neighbours whose "
                + "touching edges are roads", BoundsOfTermsTest::oneRoad);
        Check.sentence("Wishes", "all cells whose tile has a road on some edge are connected",
                BoundsOfTermsTest::theLongestRoad);

        Check.sentence("Filling", "The state is the seed, and what is possible is narrowed.",
                BoundsOfTermsTest::everyFillingBeginsWithTheSeed);
        Check.sentence("Filling", "It goes wrong if no tile is possible in a cell",
                BoundsOfTermsTest::noTileIsPossible);
        Check.sentence("Filling", "or if more cells than a wish allows have this tile alone",
                BoundsOfTermsTest::moreAloneThanWished);
        Check.sentence("Filling", "if each cell has one tile alone, it is filled, if the wish of one road holds, or "
                + "there is none; otherwise it has gone wrong", BoundsOfTermsTest::filledWithoutAGuess);
        Check.sentence("Filling", "the one with the fewest tiles, of several the one with the lowest number",
                BoundsOfTermsTest::fewestFirstThenLowest);
        Check.sentence("Filling", "gets one that is drawn from its tiles, a guess, and all is narrowed",
                BoundsOfTermsTest::aGuessNarrowsAll);
        Check.sentence("Filling", "what is possible is as it was ahead of the guess, but for this tile, which is taken "
                + "from its cell; and all is narrowed", BoundsOfTermsTest::whatWasPossibleComesBack);
        Check.sentence("Filling", "the latest guess that was not taken back yet is taken back",
                BoundsOfTermsTest::onlyTheLatestGuessGoes);
        Check.sentence("Filling", "the latest guess that was not taken back yet is taken back",
                BoundsOfTermsTest::asManyGuessesAsCells);
        Check.sentence("Filling", "If there is no such guess, it cannot be filled: 'n'.",
                BoundsOfTermsTest::noGuessStands);
        Check.sentence("Filling", "If as many guesses were taken back as the limit tells, and one more should be, it "
                + "is given up: 'l'.", BoundsOfTermsTest::asManyAsTheLimitTells);
        Check.sentence("Filling", "If it is filled: 'd'.", BoundsOfTermsTest::nothingToTakeBack);

        Check.sentence("Exceptions", "If several exceptions apply, the one that is documented first is thrown.",
                BoundsOfTermsTest::theFirstDocumentedIsThrown);
        Check.sentence("Exceptions", "A method that throws an exception changes nothing.",
                BoundsOfTermsTest::whatThrowsChangesNothing);
        Check.sentence("What it is", "An object is used for at most 512 calls after it has been made",
                BoundsOfTermsTest::theLastOfAllCalls);
        Check.end();
    }
}
