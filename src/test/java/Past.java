/** Where a refused call is tried: a new object that was brought there by calls, and how large it is then. */
enum Past {
    /** Nothing but a new object. */
    NEW(9, 0),
    /** One tile in a world of one cell, filled. */
    SMALLEST(1, 1),
    /** A world of four cells, whose ways can be counted, that filling gave up. */
    GIVEN_UP(4, 7),
    /** A filled world with something of all that can be set, guesses and takings back. */
    FILLED(9, 7),
    /** As many tiles, cells and chunks as there can be, filled. */
    FULL(36, 8);

    private static final int[][] SMALLEST_TILE = {{0, 1, 2, 3, 9}};
    private static final int[][] GIVEN_UP_TILES = {{3, 1, 2, 1, 7}, {2, 3, 1, 0, 9}, {2, 1, 3, 0, 3}, {2, 0, 2, 0, 7},
        {2, 3, 2, 0, 5}, {2, 0, 2, 1, 2}, {1, 2, 1, 3, 5}};
    private static final int[][] FILLED_TILES = {{2, 1, 1, 0, 9}, {1, 1, 0, 1, 4}, {0, 2, 1, 1, 2}, {1, 1, 1, 3, 8},
        {1, 2, 1, 2, 8}, {0, 2, 1, 1, 3}, {1, 1, 1, 3, 2}};
    private static final int[][] FULL_TILES = {{0, 1, 3, 2, 1}, {3, 1, 3, 2, 2}, {3, 0, 2, 0, 3}, {3, 0, 3, 1, 4},
        {2, 3, 1, 3, 5}, {2, 0, 2, 0, 6}, {3, 1, 3, 1, 7}, {2, 3, 2, 0, 8}};

    final int cells;
    final int tiles;

    Past(int cells, int tiles) {
        this.cells = cells;
        this.tiles = tiles;
    }

    Tilehold make() {
        Tilehold maker = new Tilehold();
        switch (this) {
            case SMALLEST:
                Maker.add(maker, SMALLEST_TILE);
                maker.setSize(1, 1);
                Check.same("the smallest past is filled", maker.fill(0), 'd');
                break;
            case GIVEN_UP:
                makeGivenUp(maker);
                break;
            case FILLED:
                makeFilled(maker);
                break;
            case FULL:
                makeFull(maker);
                break;
            default:
                break;
        }
        return maker;
    }

    private static void makeGivenUp(Tilehold maker) {
        Maker.add(maker, GIVEN_UP_TILES);
        maker.setSeed(62030);
        maker.setSize(2, 2);
        maker.fix(2, 5);
        maker.ban(2, 4);
        maker.setMost(4, 1);
        maker.setRoad(true);
        Check.same("the past with a limit", maker.fill(3), 'l');
        Check.same("its takings back", maker.takenBack(), 3);
        maker.visit(0, 0);
    }

    private static void makeFilled(Tilehold maker) {
        Maker.add(maker, FILLED_TILES);
        maker.setSeed(65729);
        maker.fix(4, 4);
        maker.ban(2, 0);
        maker.setMost(5, 1);
        maker.setRoad(true);
        Check.same("the filled past", maker.fill(200), 'd');
        Check.same("its guesses", maker.guesses(), 17);
        Check.same("its takings back", maker.takenBack(), 13);
        Check.same("a filled chunk of it", maker.visit(0, 1), 'd');
        Check.same("one that can't be filled", maker.visit(0, 0), 'n');
    }

    private static void makeFull(Tilehold maker) {
        Maker.add(maker, FULL_TILES);
        maker.setSeed(99999);
        maker.setSize(6, 6);
        maker.fix(35, 7);
        maker.ban(0, 0);
        maker.setMost(7, 36);
        Check.same("the full past", maker.fill(200), 'd');
        for (int[] place : FULL.places()) {
            maker.visit(place[0], place[1]);
        }
        Check.same("its chunks", maker.chunks(), 30);
    }

    boolean isFilled() {
        return this != NEW && this != GIVEN_UP;
    }

    /** The places of the chunks that are kept. */
    int[][] places() {
        switch (this) {
            case GIVEN_UP:
                return new int[][] {{0, 0}};
            case FILLED:
                return new int[][] {{0, 1}, {0, 0}};
            case FULL:
                int[][] places = new int[30][];
                for (int number = 0; number < 30; number++) {
                    places[number] = new int[] {number < 15 ? -50 : 50, number % 15 + (number < 15 ? -50 : 36)};
                }
                return places;
            default:
                return new int[0][];
        }
    }

    /** The call throws the very exception that is due, however often, and leaves everything as it was. */
    void refuses(String what, Class<? extends Exception> due, Maker.Call call) {
        Tilehold refusing = make();
        Check.throwsOnly(this + ": " + what, due, () -> call.on(refusing));
        Check.throwsOnly(this + ": " + what + " again", due, () -> call.on(refusing));
        String[] got = new Told(refusing, this).all();
        String[] left = new Told(make(), this).all();
        for (int line = 0; line < left.length; line++) {
            Check.same(this + ": after the refused " + what + ", " + line, got[line], left[line]);
        }
        Tilehold sized = make();
        Check.throwsOnly(this + ": " + what + " once more", due, () -> call.on(sized));
        Check.same(this + ": the last cell after the refused " + what, sized.options(cells - 1),
                make().options(cells - 1));
        Check.throwsOnly(this + ": the cell beyond after the refused " + what, IndexOutOfBoundsException.class,
                () -> sized.options(cells));
    }
}
