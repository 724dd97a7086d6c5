import java.util.NoSuchElementException;

/** Promises 20 to 24. */
public final class ChunksTest {
    private static final Class<IllegalArgumentException> ILLEGAL = IllegalArgumentException.class;
    private static final Class<IllegalStateException> STATE = IllegalStateException.class;
    private static final Class<IndexOutOfBoundsException> INDEX = IndexOutOfBoundsException.class;
    private static final Class<NoSuchElementException> NO_SUCH = NoSuchElementException.class;

    /** Tiles with which a quarter of all chunks can be filled, found by a search. */
    private static final int[][] TILES = {{0, 1, 3, 2}, {3, 1, 3, 2}, {3, 0, 2, 0}, {3, 0, 3, 1}, {2, 3, 1, 3},
        {2, 0, 2, 0}, {3, 1, 3, 1}, {2, 3, 2, 0}};

    private static Tilehold maker() {
        Tilehold maker = new Tilehold();
        for (int tile = 0; tile < TILES.length; tile++) {
            maker.addTile(TILES[tile][0], TILES[tile][1], TILES[tile][2], TILES[tile][3], 1 + tile);
        }
        return maker;
    }

    /** The borders' colours repeat, so a chunk's y tells on its own whether it can be filled at x 0. */
    private static int filledPlace(Tilehold maker, int from) {
        for (int y = from; y <= 50; y++) {
            maker.forget();
            if (maker.visit(0, y) == 'd') {
                return y;
            }
        }
        return 51;
    }

    private static void promise20Visit() {
        Tilehold none = new Tilehold();
        Check.throwsOnly("visit without tiles", STATE, () -> none.visit(0, 0));
        for (int wrong : new int[] {-51, 51, Integer.MIN_VALUE, Integer.MAX_VALUE}) {
            Check.throwsOnly("visit with a wrong x", ILLEGAL, () -> none.visit(wrong, 0));
            Check.throwsOnly("visit with a wrong y", ILLEGAL, () -> none.visit(0, wrong));
        }
        Tilehold maker = maker();
        Check.same("the farthest", maker.visit(-50, 50) == 'd' || maker.visit(-50, 50) == 'n', true);
        Check.same("and the other", maker.visit(50, -50) == maker.visit(50, -50), true);
        Check.same("chunks", maker.chunks(), 2);
        for (int y = 0; y < 28; y++) {
            maker.visit(3, y);
        }
        Check.same("30 chunks", maker.chunks(), 30);
        Check.throwsOnly("one more", STATE, () -> maker.visit(3, 28));
        Check.throwsOnly("one more out of range", ILLEGAL, () -> maker.visit(3, 51));
        Check.same("one that is kept", maker.visit(3, 27) == maker.visit(3, 27), true);
        Check.same("30 chunks still", maker.chunks(), 30);
        maker.forget();
        maker.visit(3, 28);
        Check.same("after forgetting", maker.chunks(), 1);
    }

    private static void promise20KeptEnds() {
        Tilehold maker = new Tilehold();
        maker.addTile(0, 0, 0, 0, 1);
        Check.same("a chunk that can't be filled", maker.visit(0, 0), 'n');
        Check.same("it is kept too", maker.chunks(), 1);
        Check.throwsOnly("it has no tiles", NO_SUCH, () -> maker.chunkTile(0, 0, 0));
        maker.setMost(0, 0);
        maker.setRoad(true);
        maker.ban(0, 0);
        Check.same("kept in spite of wishes", maker.chunks(), 1);
    }

    private static int border(int seed, int x, int y, int axis, int place) {
        int h = ((((seed * 31 + x) * 31 + y) * 31 + axis) * 31 + place) * 40503;
        return (h >>> 4) & 3;
    }

    private static void fits(Tilehold maker, int seed, int x, int y) {
        for (int place = 0; place < 3; place++) {
            Check.same("upper rim", TILES[maker.chunkTile(x, y, place)][0], border(seed, x, y - 1, 1, place));
            Check.same("right rim", TILES[maker.chunkTile(x, y, 3 * place + 2)][1], border(seed, x, y, 0, place));
            Check.same("lower rim", TILES[maker.chunkTile(x, y, 6 + place)][2], border(seed, x, y, 1, place));
            Check.same("left rim", TILES[maker.chunkTile(x, y, 3 * place)][3], border(seed, x - 1, y, 0, place));
        }
        for (int cell = 0; cell < 9; cell++) {
            if (cell % 3 < 2) {
                Check.same("beside", maker.areFitting(maker.chunkTile(x, y, cell),
                        maker.chunkTile(x, y, cell + 1), 1), true);
            }
            if (cell < 6) {
                Check.same("below", maker.areFitting(maker.chunkTile(x, y, cell),
                        maker.chunkTile(x, y, cell + 3), 2), true);
            }
        }
    }

    private static void promise20And21Fit() {
        int seen = 0;
        for (int seed : new int[] {0, 1, 77, 99999}) {
            for (int y = -50; y <= 50; y++) {
                Tilehold maker = maker();
                maker.setSeed(seed);
                for (int x : new int[] {-50, 0, 50}) {
                    if (maker.visit(x, y) == 'd') {
                        fits(maker, seed, x, y);
                        seen++;
                    }
                }
            }
        }
        Check.same("many chunks were filled", seen > 100, true);
    }

    private static void promise20AnyOrder() {
        Tilehold forward = maker();
        Tilehold backward = maker();
        // Wishes, bans and the world's size are not for chunks.
        backward.setMost(0, 0);
        backward.setMost(5, 0);
        backward.setRoad(true);
        backward.ban(0, 3);
        backward.fix(4, 1);
        backward.setSize(1, 6);
        int filled = 0;
        for (int y = 0; y < 30; y++) {
            forward.visit(0, y);
            backward.visit(0, 29 - y);
        }
        for (int y = 0; y < 30; y++) {
            int place = y;
            Check.same("the end by any order", forward.visit(0, y), backward.visit(0, y));
            if (forward.visit(0, y) == 'd') {
                filled++;
                for (int cell = 0; cell < 9; cell++) {
                    Check.same("the tile by any order", forward.chunkTile(0, y, cell), backward.chunkTile(0, y, cell));
                }
            } else {
                Check.throwsOnly("no tile", NO_SUCH, () -> forward.chunkTile(0, place, 0));
            }
        }
        Check.same("some were filled", filled > 3, true);
    }

    private static void promise21ChunkTile() {
        Tilehold maker = maker();
        int y = filledPlace(maker, -50);
        Check.same("a place was found", y <= 50, true);
        for (int wrong : new int[] {-51, 51, Integer.MIN_VALUE}) {
            Check.throwsOnly("a wrong x", ILLEGAL, () -> maker.chunkTile(wrong, y, 0));
            Check.throwsOnly("a wrong y", ILLEGAL, () -> maker.chunkTile(0, wrong, 9));
        }
        Check.throwsOnly("one that is not kept", NO_SUCH, () -> maker.chunkTile(1, y, 0));
        Check.throwsOnly("one that is not kept, cell 9", NO_SUCH, () -> maker.chunkTile(1, y, 9));
        Check.throwsOnly("cell 9", INDEX, () -> maker.chunkTile(0, y, 9));
        Check.throwsOnly("cell -1", INDEX, () -> maker.chunkTile(0, y, -1));
        fits(maker, 0, 0, y);
        maker.forget();
        Check.throwsOnly("a forgotten one", NO_SUCH, () -> maker.chunkTile(0, y, 0));
        maker.visit(0, y);
        fits(maker, 0, 0, y);
    }

    private static void promise22Border() {
        Tilehold maker = new Tilehold();
        for (int seed : new int[] {0, 5, 99999}) {
            maker.setSeed(seed);
            for (int x : new int[] {-50, -1, 0, 1, 50}) {
                for (int y : new int[] {-50, -1, 0, 1, 50}) {
                    for (int place = 0; place < 3; place++) {
                        Check.same("border", maker.border(x, y, false, place), border(seed, x, y, 0, place));
                        Check.same("border below", maker.border(x, y, true, place), border(seed, x, y, 1, place));
                    }
                }
            }
        }
        maker.setSeed(0);
        Check.same("border(0, 0, true, 1)", maker.border(0, 0, true, 1), 2);
        for (int wrong : new int[] {-51, 51, Integer.MAX_VALUE}) {
            Check.throwsOnly("a wrong x", ILLEGAL, () -> maker.border(wrong, 0, false, 0));
            Check.throwsOnly("a wrong y", ILLEGAL, () -> maker.border(0, wrong, true, 0));
        }
        Check.throwsOnly("place 3", ILLEGAL, () -> maker.border(0, 0, true, 3));
        Check.throwsOnly("place -1", ILLEGAL, () -> maker.border(0, 0, false, -1));
    }

    private static void promise23And24ChunksAndForget() {
        Tilehold maker = maker();
        Check.same("chunks at first", maker.chunks(), 0);
        Check.same("forget at first", maker.forget(), 0);
        maker.visit(0, 0);
        maker.visit(0, 1);
        maker.visit(1, 0);
        maker.visit(0, 0);
        Check.throwsOnly("visit(0, 51)", ILLEGAL, () -> maker.visit(0, 51));
        Check.same("chunks", maker.chunks(), 3);
        maker.setSize(2, 2);
        maker.setMost(0, 1);
        maker.setRoad(true);
        maker.fix(0, 0);
        maker.fill(3);
        Check.same("chunks are kept", maker.chunks(), 3);
        Check.same("forget", maker.forget(), 3);
        Check.same("chunks after forget", maker.chunks(), 0);
        Check.same("forget again", maker.forget(), 0);

        Tilehold full = new Tilehold();
        full.addTile(0, 0, 0, 0, 1);
        full.fill(0);
        full.visit(0, 0);
        full.forget();
        Check.same("a filled world is not forgotten", full.isFilled(), true);
    }

    public static void main(String[] arguments) {
        promise20Visit();
        promise20KeptEnds();
        promise20And21Fit();
        promise20AnyOrder();
        promise21ChunkTile();
        promise22Border();
        promise23And24ChunksAndForget();
        Check.end();
    }
}
