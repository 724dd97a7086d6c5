import java.util.ArrayList;
import java.util.Arrays;
import java.util.List;
import java.util.NoSuchElementException;

/** The sentences of promises 20 to 24, and of "Terms" on chunks, that name a boundary case. */
public final class BoundsOfChunksTest {
    private static final Class<IllegalArgumentException> ILLEGAL = IllegalArgumentException.class;
    private static final Class<IllegalStateException> STATE = IllegalStateException.class;
    private static final Class<IndexOutOfBoundsException> INDEX = IndexOutOfBoundsException.class;
    private static final Class<NoSuchElementException> NO_SUCH = NoSuchElementException.class;

    private static final int[] ENDS = {-50, -49, -1, 0, 1, 49, 50};

    /** Found by a search: where seed + 31 x + y is 1 modulo 64, a chunk is filled, and that at its right and below. */
    static final int[][] NEIGHBOURS = {{0, 0, 3, 1, 1}, {0, 1, 0, 2, 1}, {0, 2, 0, 2, 1}, {0, 2, 0, 3, 1},
        {1, 3, 0, 3, 1}, {2, 2, 1, 3, 1}, {2, 3, 2, 0, 1}, {2, 3, 2, 3, 1}};

    /** Found by a search: where it is 0 or 31 modulo 64, a chunk is filled with tile 2 or 7 drawn twice. */
    private static final int[][] DRAWN = {{0, 1, 1, 2, 1}, {0, 2, 1, 0, 1}, {1, 0, 2, 0, 1}, {1, 2, 2, 0, 1},
        {2, 0, 3, 1, 1}, {2, 1, 0, 3, 1}, {3, 3, 0, 1, 1}, {1, 0, 2, 0, 1}};

    /** Found by a search: with seed 608, 23 guesses are taken back at 0, 0 until it can't be filled. */
    private static final int[][] IN_VAIN = {{1, 2, 0, 3, 9}, {3, 1, 0, 2, 7}, {0, 2, 0, 2, 9}, {0, 0, 3, 2, 4},
        {0, 1, 0, 1, 2}, {0, 2, 3, 0, 4}, {0, 2, 0, 2, 7}, {3, 1, 0, 2, 7}};

    /** Found by a search: 14 of 64 kinds of chunks are filled. */
    private static final int[][] MANY_KINDS = {{3, 1, 2, 1, 1}, {2, 3, 1, 0, 2}, {2, 1, 3, 0, 3}, {2, 0, 2, 0, 4},
        {2, 3, 2, 0, 5}, {2, 0, 2, 1, 6}, {1, 2, 1, 3, 7}, {1, 3, 2, 0, 8}};

    /** In whole numbers that don't go round: the 32 lowest bits are what ints keep. */
    private static int colour(long seed, int x, int y, int axis, int place) {
        long h = ((((seed * 31 + x) * 31 + y) * 31 + axis) * 31 + place) * 40503;
        return (int) (Math.floorMod(h, 1L << 32) / 16 % 4);
    }

    private static int kind(int seed, int x, int y) {
        return Math.floorMod(seed + 31 * x + y, 64);
    }

    // Promise 20.

    private static void placesRefused() {
        for (Past past : Past.values()) {
            for (int wrong : Maker.outOf(-50, 50)) {
                past.refuses("visit(" + wrong + ", 0)", ILLEGAL, maker -> maker.visit(wrong, 0));
                past.refuses("visit(0, " + wrong + ")", ILLEGAL, maker -> maker.visit(0, wrong));
                past.refuses("visit(" + wrong + ", " + wrong + ")", ILLEGAL, maker -> maker.visit(wrong, wrong));
            }
        }
    }

    private static void placesAtTheEnds() {
        for (int x : ENDS) {
            for (int y : ENDS) {
                Tilehold maker = Maker.of(NEIGHBOURS);
                maker.setSeed(Math.floorMod(1 - 31 * x - y, 64));
                Check.same("visit(" + x + ", " + y + ")", maker.visit(x, y), 'd');
                Check.same("chunks", maker.chunks(), 1);
                for (int cell = 0; cell < 9; cell++) {
                    Check.same("chunkTile", maker.chunkTile(x, y, cell) >= 0, true);
                }
            }
        }
    }

    private static void noTilesRefused() {
        for (int x : ENDS) {
            for (int y : ENDS) {
                Past.NEW.refuses("visit(" + x + ", " + y + ")", STATE, maker -> maker.visit(x, y));
            }
        }
        Tilehold maker = Maker.alikeTiles(1);
        Check.same("with one tile", maker.visit(0, 0), 'n');
    }

    private static void thirtyOthersRefused() {
        for (int[] place : new int[][] {{0, 0}, {-50, -35}, {50, 35}, {-49, -50}, {50, -50}, {-50, 50}, {49, 50}}) {
            Past.FULL.refuses("visit(" + place[0] + ", " + place[1] + ")", STATE,
                    maker -> maker.visit(place[0], place[1]));
        }
        Past.FULL.refuses("visit(51, 0)", ILLEGAL, maker -> maker.visit(51, 0));
        Past.FULL.refuses("visit(0, -51)", ILLEGAL, maker -> maker.visit(0, -51));
    }

    private static void thirtyAreKept() {
        Tilehold maker = Maker.of(NEIGHBOURS);
        char[] ends = new char[30];
        for (int number = 0; number < 30; number++) {
            Check.same("chunks", maker.chunks(), number);
            ends[number] = maker.visit(number - 50, 50);
        }
        Check.same("thirty", maker.chunks(), 30);
        Check.throwsOnly("one more", STATE, () -> maker.visit(-20, 50));
        for (int number = 0; number < 30; number++) {
            Check.same("one of the thirty", maker.visit(number - 50, 50), ends[number]);
        }
        Check.same("thirty still", maker.chunks(), 30);
        Check.same("forget", maker.forget(), 30);
        maker.visit(-20, 50);
        Check.same("one after forgetting", maker.chunks(), 1);
    }

    /** No two places are taken for one another, whatever sums or products of x and y are the same. */
    private static void placesApart() {
        for (int factor = 0; factor <= 100; factor++) {
            Tilehold maker = Maker.of(NEIGHBOURS);
            maker.visit(0, 50);
            maker.visit(1, 50 - factor);
            maker.visit(-1, factor - 50);
            maker.visit(0, -50);
            Check.same("chunks, by rows of " + factor, maker.chunks(), 4);
            maker.forget();
            maker.visit(50, 0);
            maker.visit(50 - factor, 1);
            maker.visit(factor - 50, -1);
            maker.visit(-50, 0);
            Check.same("chunks, by columns of " + factor, maker.chunks(), 4);
        }
    }

    /** With seven filled chunks kept, no other of the 10201 places has a tile. */
    private static void noOtherIsKept() {
        int kept = 0;
        for (int from = -50; from <= 50; from += 4) {
            Tilehold maker = Maker.of(NEIGHBOURS);
            maker.setSeed(1601);
            for (int x : ENDS) {
                Check.same("visit", maker.visit(x, rowOfKindOne(1601, x)), 'd');
            }
            for (int x = from; x < from + 4 && x <= 50; x++) {
                for (int y = -50; y <= 50; y++) {
                    int atX = x;
                    int atY = y;
                    if (Arrays.stream(ENDS).anyMatch(end -> end == atX) && y == rowOfKindOne(1601, x)) {
                        kept += maker.chunkTile(x, y, 8) >= 0 ? 1 : 0;
                    } else {
                        Check.throwsOnly("chunkTile(" + x + ", " + y + ", 8)", NO_SUCH,
                                () -> maker.chunkTile(atX, atY, 8));
                    }
                }
            }
        }
        Check.same("those that are kept", kept, ENDS.length);
    }

    private static int rowOfKindOne(int seed, int x) {
        return Math.floorMod(1 - seed - 31 * x + 50, 64) - 50;
    }

    // Chunks in "Terms".

    private static void neighboursFit() {
        for (int x : new int[] {-50, -1, 0, 49}) {
            for (int y : new int[] {-50, -1, 0, 49}) {
                Tilehold maker = Maker.of(NEIGHBOURS);
                maker.setSeed(Math.floorMod(1 - 31 * x - y, 64) + 99904);
                Check.same("the chunk below", maker.visit(x, y + 1), 'd');
                Check.same("the chunk", maker.visit(x, y), 'd');
                Check.same("the chunk at its right", maker.visit(x + 1, y), 'd');
                for (int place = 0; place < 3; place++) {
                    int right = maker.chunkTile(x, y, 3 * place + 2);
                    int below = maker.chunkTile(x, y, 6 + place);
                    Check.same("side by side at " + place,
                            maker.areFitting(right, maker.chunkTile(x + 1, y, 3 * place), 1), true);
                    Check.same("one below the other at " + place,
                            maker.areFitting(below, maker.chunkTile(x, y + 1, place), 2), true);
                    Check.same("the border at the right", NEIGHBOURS[right][1], maker.border(x, y, false, place));
                    Check.same("the border below", NEIGHBOURS[below][2], maker.border(x, y, true, place));
                }
            }
        }
    }

    private static void rim(Tilehold maker, int[][] tiles, int seed, int x, int y) {
        for (int place = 0; place < 3; place++) {
            Check.same("above", tiles[maker.chunkTile(x, y, place)][0], colour(seed, x, y - 1, 1, place));
            Check.same("right", tiles[maker.chunkTile(x, y, 3 * place + 2)][1], colour(seed, x, y, 0, place));
            Check.same("below", tiles[maker.chunkTile(x, y, 6 + place)][2], colour(seed, x, y, 1, place));
            Check.same("left", tiles[maker.chunkTile(x, y, 3 * place)][3], colour(seed, x - 1, y, 0, place));
        }
    }

    /** Beyond the farthest chunks lie borders, too. */
    private static void rimsAtTheEnds() {
        for (int seed : new int[] {0, 64, 99935, 99936, 99999}) {
            for (int x : ENDS) {
                for (int y : ENDS) {
                    int near = seed - seed % 64 + Math.floorMod(1 - 31 * x - y, 64);
                    int within = near > 99999 ? near - 64 : near;
                    Tilehold maker = Maker.of(NEIGHBOURS);
                    maker.setSeed(within);
                    Check.same("visit(" + x + ", " + y + ") with " + within, maker.visit(x, y), 'd');
                    rim(maker, NEIGHBOURS, within, x, y);
                }
            }
        }
    }

    /** With other tiles, most chunks at the ends can't be filled for their rims' colours: the model knows which. */
    private static void rimsAtTheEndsAsInTheModel() {
        int filled = 0;
        for (int[][] tiles : new int[][][] {NEIGHBOURS, DRAWN, IN_VAIN, MANY_KINDS}) {
            for (int seed : new int[] {0, 1, 63, 99999}) {
                for (int x : ENDS) {
                    Tilehold maker = Maker.of(tiles);
                    maker.setSeed(seed);
                    Model model = new Model();
                    for (int[] tile : tiles) {
                        model.addTile(tile[0], tile[1], tile[2], tile[3], tile[4]);
                    }
                    model.setSeed(seed);
                    for (int y : ENDS) {
                        char due = model.visit(x, y);
                        Check.same("visit(" + x + ", " + y + ")", maker.visit(x, y), due);
                        for (int cell = 0; cell < 9 && due == 'd'; cell++) {
                            Check.same("its tile", maker.chunkTile(x, y, cell), model.chunkTile(x, y, cell));
                        }
                        filled += due == 'd' && Math.abs(x) == 50 && Math.abs(y) == 50 ? 1 : 0;
                    }
                }
            }
        }
        Check.same("some at the corners are filled", filled > 3, true);
    }

    /** One tile for each rim alone: a chunk has no tile somewhere, but for where all colours are as they must be. */
    private static void noTileAtTheRim() {
        for (int colour = 0; colour < 4; colour++) {
            Tilehold maker = Maker.of(new int[] {colour, colour, colour, colour, 9});
            for (int y = 0; y < 29; y++) {
                Check.same("no rim is all of colour " + colour, maker.visit(0, y), 'n');
            }
        }
        // Without any one of the tiles that a chunk is made of, there is none.
        for (int without = 0; without < 7; without++) {
            Tilehold maker = new Tilehold();
            for (int tile = 0; tile < 7; tile++) {
                if (tile != without) {
                    Maker.add(maker, DRAWN[tile]);
                }
            }
            int isUsed = "221543065".indexOf((char) ('0' + without)) >= 0 ? 1 : 0;
            maker.setSeed(31);
            Check.same("without tile " + without, maker.visit(0, 0), isUsed == 1 ? 'n' : 'd');
        }
    }

    /** The states of these chunks are below 0 and beyond 99999, too; the draws in them go by the state. */
    private static void statesAtTheEnds() {
        int negative = 0;
        int[] seen = new int[4];
        for (int seed : new int[] {0, 31, 6400, 99968, 99999}) {
            for (int x : new int[] {-50, -25, -1, 0, 1, 50}) {
                for (int y = -50; y <= 50; y++) {
                    int kind = kind(seed, x, y);
                    if (kind != 0 && kind != 31) {
                        continue;
                    }
                    int state = seed + 7919 * x + 104729 * y;
                    negative += state < 0 ? 1 : 0;
                    seen[drawnTiles(seed, x, y, state)]++;
                }
            }
        }
        Check.same("states below 0", negative > 10, true);
        for (int draws = 0; draws < 4; draws++) {
            Check.same("draws " + draws + " came up", seen[draws] > 0, true);
        }
    }

    /** All tiles are told by the rim, but for tile 2 or 7, which are alike; answers which draw was 7, as bits. */
    private static int drawnTiles(int seed, int x, int y, int state) {
        Tilehold maker = Maker.of(DRAWN);
        maker.setSeed(seed);
        Check.same("visit(" + x + ", " + y + ") with " + seed, maker.visit(x, y), 'd');
        String base = kind(seed, x, y) == 31 ? "221543065" : "654106221";
        int number = 0;
        int bits = 0;
        for (int cell = 0; cell < 9; cell++) {
            int due = base.charAt(cell) - '0';
            if (due == 2) {
                int isOther = Maker.drawn(state, number + 1) % 2;
                due = isOther == 1 ? 7 : 2;
                bits |= isOther << number;
                number++;
            }
            Check.same("the tile in cell " + cell, maker.chunkTile(x, y, cell), due);
        }
        return bits;
    }

    private static void manyTakenBack() {
        Tilehold maker = Maker.of(IN_VAIN);
        maker.setSeed(608);
        Check.same("23 of at most 50 are taken back", maker.visit(0, 0), 'n');
    }

    private static void withoutWhatTheWorldHas() {
        for (int kind : new int[] {0, 31}) {
            Tilehold plain = Maker.of(DRAWN);
            plain.setSeed(kind);
            Check.same("visit", plain.visit(0, 0), 'd');
            Tilehold maker = Maker.of(DRAWN);
            maker.setSeed(kind);
            maker.setRoad(true);
            maker.setSize(kind == 0 ? 1 : 6, kind == 0 ? 1 : 6);
            for (int tile = 0; tile < 8; tile++) {
                maker.setMost(tile, 0);
                maker.ban(0, tile);
            }
            maker.fix(0, 7);
            Check.same("visit in spite of wishes and bans", maker.visit(0, 0), 'd');
            for (int cell = 0; cell < 9; cell++) {
                Check.same("the tile in cell " + cell, maker.chunkTile(0, 0, cell), plain.chunkTile(0, 0, cell));
            }
        }
    }

    private static void worldAndChunksApart() {
        Tilehold maker = Past.FILLED.make();
        maker.forget();
        Check.same("visit", maker.visit(0, 1), 'd');
        Check.same("guesses", maker.guesses(), 17);
        Check.same("takenBack", maker.takenBack(), 13);
        Tilehold before = Past.FILLED.make();
        for (int cell = 0; cell < 9; cell++) {
            Check.same("the world's tile", maker.tileAt(cell), before.tileAt(cell));
            Check.same("the chunk's tile", maker.chunkTile(0, 1, cell), before.chunkTile(0, 1, cell));
        }
        maker.setSize(3, 3);
        maker.fill(0);
        for (int cell = 0; cell < 9; cell++) {
            Check.same("the chunk's tile still", maker.chunkTile(0, 1, cell), before.chunkTile(0, 1, cell));
        }
    }

    private static void whatForgets() {
        List<Maker.Call> calls = new ArrayList<>();
        calls.add(maker -> maker.addTile(0, 0, 0, 0, 1));
        calls.add(maker -> maker.setSeed(0));
        calls.add(maker -> maker.setSeed(65729));
        calls.add(maker -> maker.setSeed(99999));
        calls.add(Tilehold::forget);
        for (int number = 0; number < calls.size(); number++) {
            Tilehold maker = Past.FILLED.make();
            Check.same("kept", maker.chunks(), 2);
            calls.get(number).on(maker);
            Check.same("kept after call " + number, maker.chunks(), 0);
            Check.throwsOnly("chunkTile after call " + number, NO_SUCH, () -> maker.chunkTile(0, 1, 0));
            Check.same("forget after call " + number, maker.forget(), 0);
            maker.visit(0, 1);
            Check.same("kept anew after call " + number, maker.chunks(), 1);
        }
    }

    private static void whatKeeps() {
        List<Maker.Call> calls = new ArrayList<>();
        calls.add(maker -> maker.setSize(3, 3));
        calls.add(maker -> maker.setSize(6, 1));
        calls.add(maker -> maker.fix(0, 0));
        calls.add(maker -> maker.ban(0, 0));
        calls.add(maker -> maker.soften(4));
        calls.add(maker -> maker.setMost(0, 0));
        calls.add(maker -> maker.setRoad(false));
        calls.add(maker -> maker.areFitting(0, 0, 0));
        calls.add(maker -> maker.options(0));
        calls.add(maker -> maker.optionsAnew(0));
        calls.add(maker -> maker.fill(0));
        calls.add(maker -> maker.fill(200));
        calls.add(Tilehold::isFilled);
        calls.add(maker -> maker.tileAt(0));
        calls.add(Tilehold::guesses);
        calls.add(Tilehold::takenBack);
        calls.add(maker -> {
            maker.setSize(1, 1);
            maker.ways();
        });
        calls.add(Tilehold::roads);
        calls.add(maker -> maker.visit(0, 1));
        calls.add(maker -> maker.visit(0, 0));
        calls.add(maker -> maker.chunkTile(0, 1, 8));
        calls.add(maker -> maker.border(0, 1, true, 2));
        calls.add(Tilehold::chunks);
        calls.add(Tilehold::worldSum);
        calls.add(Tilehold::meanOptions);
        calls.add(Tilehold::roadShare);
        calls.add(Tilehold::isSound);
        calls.add(maker -> maker.visit(50, -50));
        Tilehold before = Past.FILLED.make();
        int last = calls.size() - 1;
        for (int number = 0; number < calls.size(); number++) {
            Tilehold maker = Past.FILLED.make();
            calls.get(number).on(maker);
            Check.same("kept after call " + number, maker.chunks(), number == last ? 3 : 2);
            for (int cell = 0; cell < 9; cell++) {
                Check.same("chunkTile after call " + number, maker.chunkTile(0, 1, cell),
                        before.chunkTile(0, 1, cell));
            }
            Check.throwsOnly("that which can't be filled", NO_SUCH, () -> maker.chunkTile(0, 0, 0));
        }
    }

    private static void keptInVain() {
        Tilehold maker = Maker.alikeTiles(1);
        for (int number = 0; number < 30; number++) {
            Check.same("it can't be filled", maker.visit(0, number), 'n');
            Check.same("it is kept", maker.chunks(), number + 1);
            Check.same("it can't be filled again", maker.visit(0, number), 'n');
            Check.same("it is kept once", maker.chunks(), number + 1);
        }
        Check.throwsOnly("one more", STATE, () -> maker.visit(0, 30));
        Check.same("the last of them", maker.visit(0, 29), 'n');
        Check.same("forget", maker.forget(), 30);
    }

    // Promise 21.

    private static void chunkTilePlacesRefused() {
        for (Past past : Past.values()) {
            for (int wrong : Maker.outOf(-50, 50)) {
                for (int cell : new int[] {0, -1, 9}) {
                    past.refuses("chunkTile(" + wrong + ", 1, " + cell + ")", ILLEGAL,
                            maker -> maker.chunkTile(wrong, 1, cell));
                    past.refuses("chunkTile(0, " + wrong + ", " + cell + ")", ILLEGAL,
                            maker -> maker.chunkTile(0, wrong, cell));
                }
            }
        }
    }

    private static void chunkTileNotKeptRefused() {
        for (Past past : Past.values()) {
            for (int[] place : new int[][] {{50, -50}, {-50, 50}, {49, 50}, {1, 0}}) {
                for (int cell : new int[] {0, 8, -1, 9, Integer.MIN_VALUE, Integer.MAX_VALUE}) {
                    past.refuses("chunkTile of one that is not kept, " + cell, NO_SUCH,
                            maker -> maker.chunkTile(place[0], place[1], cell));
                }
            }
        }
        for (int cell : new int[] {0, 8, -1, 9, Integer.MIN_VALUE, Integer.MAX_VALUE}) {
            Past.FILLED.refuses("chunkTile of one that is kept, but not 'd', " + cell, NO_SUCH,
                    maker -> maker.chunkTile(0, 0, cell));
        }
    }

    private static void chunkTileCellsRefused() {
        for (int cell : Maker.outOf(0, 8)) {
            Past.FILLED.refuses("chunkTile(0, 1, " + cell + ")", INDEX, maker -> maker.chunkTile(0, 1, cell));
            Past.GIVEN_UP.refuses("chunkTile(0, 0, " + cell + ")", INDEX, maker -> maker.chunkTile(0, 0, cell));
        }
    }

    /** Of thirty kept chunks, the first and the last one, with all cells, are told as they were filled. */
    private static void chunkTileFirstAndLast() {
        Tilehold maker = Maker.of(DRAWN);
        maker.setSeed(31);
        maker.visit(0, 0);
        for (int number = 1; number < 29; number++) {
            maker.visit(1, number);
        }
        maker.visit(31, -32);
        Check.same("chunks", maker.chunks(), 30);
        Tilehold first = Maker.of(DRAWN);
        first.setSeed(31);
        first.visit(0, 0);
        Tilehold last = Maker.of(DRAWN);
        last.setSeed(31);
        Check.same("the last one", last.visit(31, -32), 'd');
        for (int cell = 0; cell < 9; cell++) {
            Check.same("the first one's", maker.chunkTile(0, 0, cell), first.chunkTile(0, 0, cell));
            Check.same("the last one's", maker.chunkTile(31, -32, cell), last.chunkTile(31, -32, cell));
        }
        Check.same("they differ", first.chunkTile(0, 0, 8) != last.chunkTile(31, -32, 8), true);
    }

    // Promise 22.

    private static void borderRefused() {
        for (Past past : Past.values()) {
            for (boolean isBelow : new boolean[] {false, true}) {
                for (int wrong : Maker.outOf(-50, 50)) {
                    past.refuses("border(" + wrong + ", 0, 0)", ILLEGAL, maker -> maker.border(wrong, 0, isBelow, 0));
                    past.refuses("border(0, " + wrong + ", 2)", ILLEGAL, maker -> maker.border(0, wrong, isBelow, 2));
                }
                for (int place : Maker.outOf(0, 2)) {
                    past.refuses("border(0, 0, " + place + ")", ILLEGAL,
                            maker -> maker.border(0, 0, isBelow, place));
                    past.refuses("border(51, 51, " + place + ")", ILLEGAL,
                            maker -> maker.border(51, 51, isBelow, place));
                }
            }
        }
    }

    private static void bordersAtTheEnds() {
        int turned = 0;
        for (int seed : new int[] {0, 1, 2, 63, 64, 49999, 99998, 99999}) {
            Tilehold maker = new Tilehold();
            maker.setSeed(seed);
            for (int x : ENDS) {
                for (int y : ENDS) {
                    for (int place = 0; place < 3; place++) {
                        String what = "(" + x + ", " + y + "), place " + place + ", seed " + seed;
                        Check.same("border" + what, maker.border(x, y, false, place), colour(seed, x, y, 0, place));
                        Check.same("border below" + what, maker.border(x, y, true, place),
                                colour(seed, x, y, 1, place));
                    }
                    turned += (((seed * 31 + x) * 31 + y) * 31 * 31) * 40503 < 0 ? 1 : 0;
                }
            }
        }
        Check.same("numbers that go round to below 0", turned > 100, true);
    }

    private static void borderOfAnyObject() {
        Tilehold maker = new Tilehold();
        int before = maker.border(50, 50, true, 2);
        Maker.add(maker, NEIGHBOURS);
        maker.visit(50, 50);
        maker.setSize(1, 6);
        Check.same("with tiles and chunks", maker.border(50, 50, true, 2), before);
        maker.setSeed(1);
        Check.same("with another seed", maker.border(50, 50, true, 2), colour(1, 50, 50, 1, 2));
        Check.same("chunks are not made by it", maker.chunks(), 0);
    }

    // Promises 23 and 24.

    private static void chunksNoneToThirty() {
        Tilehold maker = Maker.of(NEIGHBOURS);
        Check.same("chunks at first", maker.chunks(), 0);
        Check.same("forget at first", maker.forget(), 0);
        for (int many : new int[] {1, 2, 29, 30}) {
            for (int number = 0; number < many; number++) {
                maker.visit(number, -number);
                maker.visit(0, 0);
                Check.same("chunks", maker.chunks(), number + 1);
            }
            Check.same("forget", maker.forget(), many);
            Check.same("chunks after forget", maker.chunks(), 0);
            Check.same("forget once more", maker.forget(), 0);
        }
    }

    public static void main(String[] arguments) {
        Check.sentence("20", "Throws IllegalArgumentException if a number is out of range",
                BoundsOfChunksTest::placesRefused);
        Check.sentence("20", "its x, -50 to 50", BoundsOfChunksTest::placesAtTheEnds);
        Check.sentence("20", "Throws IllegalStateException if there are no tiles", BoundsOfChunksTest::noTilesRefused);
        Check.sentence("20", "or 30 others are kept", BoundsOfChunksTest::thirtyOthersRefused);
        Check.sentence("20", "Fills a chunk, if it was not kept.", BoundsOfChunksTest::thirtyAreKept);
        Check.sentence("20", "if it was not kept", BoundsOfChunksTest::placesApart);
        Check.sentence("21", "if it is not kept", BoundsOfChunksTest::noOtherIsKept);

        Check.sentence("Chunks", "beside it, at its right, lies that at x + 1, y, and below it that at x, y + 1",
                BoundsOfChunksTest::neighboursFit);
        Check.sentence("Chunks", "in which only tiles are possible ahead of narrowing whose edges at the rim have "
                + "these colours", BoundsOfChunksTest::rimsAtTheEnds);
        Check.sentence("Chunks", "only tiles are possible ahead of narrowing whose edges at the rim have these "
                + "colours", BoundsOfChunksTest::rimsAtTheEndsAsInTheModel);
        Check.sentence("Chunks", "only tiles are possible ahead of narrowing whose edges at the rim have these "
                + "colours", BoundsOfChunksTest::noTileAtTheRim);
        Check.sentence("Chunks", "the state is the seed plus 7919 times x plus 104729 times y, as ints go round",
                BoundsOfChunksTest::statesAtTheEnds);
        Check.sentence("Chunks", "the limit is 50", BoundsOfChunksTest::manyTakenBack);
        Check.sentence("Chunks", "A chunk is filled as a world of 3 by 3 without fixed and banned tiles and wishes",
                BoundsOfChunksTest::withoutWhatTheWorldHas);
        Check.sentence("Chunks", "A chunk is filled as a world", BoundsOfChunksTest::worldAndChunksApart);
        Check.sentence("Chunks", "What was filled is kept until a tile is added, the seed is set or all are "
                + "forgotten.", BoundsOfChunksTest::whatForgets);
        Check.sentence("Chunks", "What was filled is kept until a tile is added, the seed is set or all are "
                + "forgotten.", BoundsOfChunksTest::whatKeeps);
        Check.sentence("Clarifications", "Chunks that end with 'n' or 'l' are kept, too.",
                BoundsOfChunksTest::keptInVain);

        Check.sentence("21", "Throws IllegalArgumentException if the place is out of range",
                BoundsOfChunksTest::chunkTilePlacesRefused);
        Check.sentence("21", "Throws NoSuchElementException if it is not kept, or is not 'd'",
                BoundsOfChunksTest::chunkTileNotKeptRefused);
        Check.sentence("21", "Throws IndexOutOfBoundsException if there is no such cell",
                BoundsOfChunksTest::chunkTileCellsRefused);
        Check.sentence("21", "Returns a tile of a chunk.", BoundsOfChunksTest::chunkTileFirstAndLast);

        Check.sentence("22", "Throws IllegalArgumentException if a number is out of range",
                BoundsOfChunksTest::borderRefused);
        Check.sentence("22, Chunks", "h the int ((((seed * 31 + x) * 31 + y) * 31 + a) * 31 + p) * 40503, as ints go "
                + "round", BoundsOfChunksTest::bordersAtTheEnds);
        Check.sentence("22", "Returns the colour of an edge between a chunk and the one at its right, or below it.",
                BoundsOfChunksTest::borderOfAnyObject);

        Check.sentence("23, 24", "Returns how many were kept.", BoundsOfChunksTest::chunksNoneToThirty);
        Check.end();
    }
}
