import java.util.NoSuchElementException;

/** A maker of worlds of tiles, filled by narrowing and by guesses, and of chunks that fit at their borders. */
public final class Tilehold {
    private static final int NONE = -1;

    private static final int UP = 0;
    private static final int RIGHT = 1;
    private static final int DOWN = 2;
    private static final int LEFT = 3;
    private static final int DIRECTIONS = 4;

    private static final int COLOURS = 4;
    private static final int ROAD = 1;
    private static final int MOST_WEIGHT = 9;
    private static final int MOST_TILES = 8;

    private static final int FIRST_SIDE = 3;
    private static final int MOST_SIDE = 6;
    private static final int MOST_CELLS = MOST_SIDE * MOST_SIDE;
    private static final int MOST_CELLS_TRIED = 4;

    private static final int MOST_SEED = 99999;
    private static final int MOST_LIMIT = 200;

    private static final int CHUNK_SIDE = 3;
    private static final int CHUNK_CELLS = CHUNK_SIDE * CHUNK_SIDE;
    private static final int CHUNK_LIMIT = 50;
    private static final int MOST_CHUNKS = 30;
    private static final int FARTHEST = 50;

    private static final char FILLED = 'd';
    private static final char NOT_FILLABLE = 'n';
    private static final char GIVEN_UP = 'l';

    private final Tiles tiles;
    private final Wishes wishes;
    private final World world;
    private final Narrowing narrowed;
    private final Narrowing narrowedAnew;
    private final Filling filling;
    private final Placing trial;
    private final Grid chunkGrid;
    private final Filling chunkFilling;
    private final Chunks kept;
    private int seed;
    private boolean hasFilledWorld;

    public Tilehold() {
        tiles = new Tiles();
        wishes = new Wishes();
        world = new World(tiles);
        narrowed = new Narrowing(tiles, world.grid);
        narrowedAnew = new Narrowing(tiles, world.grid);
        filling = new Filling(tiles, world.grid, wishes);
        trial = new Placing(tiles, world.grid);
        chunkGrid = new Grid(CHUNK_SIDE, CHUNK_SIDE);
        // Chunks have a filling of their own, without wishes, so that a visit
        // leaves the filled world and the counts of its guesses alone.
        chunkFilling = new Filling(tiles, chunkGrid, new Wishes());
        kept = new Chunks();
        seed = 0;
        hasFilledWorld = false;
    }

    // Tiles and worlds.

    public int addTile(int up, int right, int down, int left, int weight)
            throws IllegalArgumentException, IllegalStateException {
        if (!isColour(up) || !isColour(right) || !isColour(down) || !isColour(left)
                || !isFromTo(weight, 1, MOST_WEIGHT)) {
            throw new IllegalArgumentException("a colour or the weight is out of range");
        }
        if (tiles.count >= MOST_TILES) {
            throw new IllegalStateException("there are 8 tiles");
        }
        kept.clear();
        hasFilledWorld = false;
        return tiles.add(up, right, down, left, weight);
    }

    public int setSeed(int seed) throws IllegalArgumentException {
        if (!isFromTo(seed, 0, MOST_SEED)) {
            throw new IllegalArgumentException("the seed is out of range");
        }
        int before = this.seed;
        this.seed = seed;
        kept.clear();
        hasFilledWorld = false;
        return before;
    }

    public int setSize(int width, int height) throws IllegalArgumentException {
        if (!isFromTo(width, 1, MOST_SIDE) || !isFromTo(height, 1, MOST_SIDE)) {
            throw new IllegalArgumentException("the width or the height is out of range");
        }
        world.renew(width, height);
        hasFilledWorld = false;
        return world.grid.cells();
    }

    public int fix(int cell, int tile) throws IndexOutOfBoundsException, NoSuchElementException {
        if (!world.grid.has(cell)) {
            throw new IndexOutOfBoundsException("there is no such cell");
        }
        if (!tiles.has(tile)) {
            throw new NoSuchElementException("there is no such tile");
        }
        hasFilledWorld = false;
        return world.fixTile(cell, tile);
    }

    public boolean ban(int cell, int tile) throws IndexOutOfBoundsException, NoSuchElementException {
        if (!world.grid.has(cell)) {
            throw new IndexOutOfBoundsException("there is no such cell");
        }
        if (!tiles.has(tile)) {
            throw new NoSuchElementException("there is no such tile");
        }
        hasFilledWorld = false;
        return world.banTile(cell, tile);
    }

    public int soften(int cell) throws IndexOutOfBoundsException {
        if (!world.grid.has(cell)) {
            throw new IndexOutOfBoundsException("there is no such cell");
        }
        hasFilledWorld = false;
        return world.free(cell);
    }

    public int setMost(int tile, int most) throws NoSuchElementException, IllegalArgumentException {
        if (!tiles.has(tile)) {
            throw new NoSuchElementException("there is no such tile");
        }
        if (!isFromTo(most, NONE, MOST_CELLS)) {
            throw new IllegalArgumentException("the number of cells is out of range");
        }
        int before = wishes.most.get(tile);
        wishes.most.set(tile, most);
        hasFilledWorld = false;
        return before;
    }

    public boolean setRoad(boolean isWished) {
        boolean before = wishes.isOneRoad;
        wishes.isOneRoad = isWished;
        hasFilledWorld = false;
        return before;
    }

    public boolean areFitting(int tile, int other, int direction)
            throws NoSuchElementException, IllegalArgumentException {
        if (!tiles.has(tile) || !tiles.has(other)) {
            throw new NoSuchElementException("there is no such tile");
        }
        if (!isFromTo(direction, 0, DIRECTIONS - 1)) {
            throw new IllegalArgumentException("there is no such direction");
        }
        return tiles.fit(tile, other, direction);
    }

    // Narrowing and filling.

    public int options(int cell) throws IndexOutOfBoundsException {
        if (!world.grid.has(cell)) {
            throw new IndexOutOfBoundsException("there is no such cell");
        }
        world.putInto(narrowed);
        narrowed.narrow();
        return Integer.bitCount(narrowed.possible.get(cell));
    }

    public int optionsAnew(int cell) throws IndexOutOfBoundsException {
        if (!world.grid.has(cell)) {
            throw new IndexOutOfBoundsException("there is no such cell");
        }
        world.putInto(narrowedAnew);
        narrowedAnew.narrowBySweeps();
        return Integer.bitCount(narrowedAnew.possible.get(cell));
    }

    public char fill(int limit) throws IllegalArgumentException, IllegalStateException {
        if (!isFromTo(limit, 0, MOST_LIMIT)) {
            throw new IllegalArgumentException("the limit is out of range");
        }
        if (tiles.count == 0) {
            throw new IllegalStateException("there are no tiles");
        }
        world.putInto(filling.narrowing);
        char end = filling.run(seed, limit);
        hasFilledWorld = end == FILLED;
        return end;
    }

    public boolean isFilled() {
        return hasFilledWorld;
    }

    public int tileAt(int cell) throws IndexOutOfBoundsException, IllegalStateException {
        if (!world.grid.has(cell)) {
            throw new IndexOutOfBoundsException("there is no such cell");
        }
        if (!hasFilledWorld) {
            throw new IllegalStateException("the world is not filled");
        }
        return filling.placing.tileIn.get(cell);
    }

    public int guesses() {
        return filling.guesses;
    }

    public int takenBack() {
        return filling.takenBack;
    }

    public int ways() throws UnsupportedOperationException {
        if (world.grid.cells() > MOST_CELLS_TRIED) {
            throw new UnsupportedOperationException("the world has more than 4 cells");
        }
        int tries = 1;
        for (int cell = 0; cell < world.grid.cells(); cell++) {
            tries *= tiles.count;
        }
        int ways = 0;
        for (int number = 0; number < tries; number++) {
            if (isWay(number)) {
                ways++;
            }
        }
        return ways;
    }

    public int roads() throws IllegalStateException {
        if (!hasFilledWorld) {
            throw new IllegalStateException("the world is not filled");
        }
        return filling.placing.pieces();
    }

    // Chunks.

    public char visit(int x, int y) throws IllegalArgumentException, IllegalStateException {
        if (!isPlace(x, y)) {
            throw new IllegalArgumentException("the place is out of range");
        }
        int number = kept.find(x, y);
        if (tiles.count == 0 || (number == NONE && kept.count >= MOST_CHUNKS)) {
            throw new IllegalStateException("there are no tiles, or 30 other chunks are kept");
        }
        if (number != NONE) {
            return kept.endOf(number);
        }
        putChunkIntoFilling(x, y);
        char end = chunkFilling.run(chunkState(x, y), CHUNK_LIMIT);
        kept.keep(x, y, end, chunkFilling.placing);
        return end;
    }

    public int chunkTile(int x, int y, int cell)
            throws IllegalArgumentException, NoSuchElementException, IndexOutOfBoundsException {
        if (!isPlace(x, y)) {
            throw new IllegalArgumentException("the place is out of range");
        }
        int number = kept.find(x, y);
        if (number == NONE || kept.endOf(number) != FILLED) {
            throw new NoSuchElementException("the chunk is not kept, or is not filled");
        }
        if (!chunkGrid.has(cell)) {
            throw new IndexOutOfBoundsException("there is no such cell");
        }
        return kept.tileOf(number, cell);
    }

    public int border(int x, int y, boolean isBelow, int place) throws IllegalArgumentException {
        if (!isPlace(x, y) || !isFromTo(place, 0, CHUNK_SIDE - 1)) {
            throw new IllegalArgumentException("a number is out of range");
        }
        return edgeColour(x, y, isBelow ? 1 : 0, place);
    }

    public int chunks() {
        return kept.count;
    }

    public int forget() {
        int before = kept.count;
        kept.clear();
        return before;
    }

    // Figures.

    public long worldSum() throws IllegalStateException {
        if (!hasFilledWorld) {
            throw new IllegalStateException("the world is not filled");
        }
        long sum = 0;
        for (int cell = 0; cell < world.grid.cells(); cell++) {
            long number = cell + 1;
            sum += (filling.placing.tileIn.get(cell) + 1) * number * number;
        }
        return sum;
    }

    public double meanOptions() {
        int cells = world.grid.cells();
        if (cells < 1) {
            return 0.0;
        }
        world.putInto(narrowed);
        narrowed.narrow();
        int sum = 0;
        for (int cell = 0; cell < cells; cell++) {
            sum += Integer.bitCount(narrowed.possible.get(cell));
        }
        return (double) sum / (double) cells;
    }

    public float roadShare() throws IllegalStateException {
        if (!hasFilledWorld) {
            throw new IllegalStateException("the world is not filled");
        }
        int cells = world.grid.cells();
        return cells < 1 ? 0.0f : (float) filling.placing.roadCells() / (float) cells;
    }

    public boolean isSound() {
        boolean isWorldSound = !hasFilledWorld
                || (filling.placing.isFitting() && filling.placing.holds(wishes));
        return isWorldSound && areBothWaysSame() && areNearChunksSame();
    }

    // What the calls above are made of.

    private static boolean isFromTo(int number, int least, int most) {
        return number >= least && number <= most;
    }

    private static boolean isColour(int number) {
        return isFromTo(number, 0, COLOURS - 1);
    }

    private static boolean isPlace(int x, int y) {
        return isFromTo(x, -FARTHEST, FARTHEST) && isFromTo(y, -FARTHEST, FARTHEST);
    }

    private static int opposite(int direction) {
        return direction ^ 2;
    }

    private static boolean isOneOf(int tile, int some) {
        return (some & (1 << tile)) != 0;
    }

    /** A try's number, written with as many digits as there are tiles, tells a tile for each cell. */
    private boolean isWay(int number) {
        int rest = number;
        for (int cell = 0; cell < world.grid.cells(); cell++) {
            int tile = tiles.count > 0 ? rest % tiles.count : 0;
            rest = tiles.count > 0 ? rest / tiles.count : 0;
            if (!isOneOf(tile, world.possibleIn(cell))) {
                return false;
            }
            trial.tileIn.set(cell, tile);
        }
        return trial.isFitting() && trial.holds(wishes);
    }

    private int edgeColour(int x, int y, int axis, int place) {
        int hash = ((((seed * 31 + x) * 31 + y) * 31 + axis) * 31 + place) * 40503;
        return (hash >>> 4) & 3;
    }

    private int chunkState(int x, int y) {
        return seed + 7919 * x + 104729 * y;
    }

    private void putChunkIntoFilling(int x, int y) {
        for (int cell = 0; cell < CHUNK_CELLS; cell++) {
            chunkFilling.narrowing.change(cell, possibleInChunk(x, y, cell));
        }
    }

    private int possibleInChunk(int x, int y, int cell) {
        int row = chunkGrid.rowOf(cell);
        int column = chunkGrid.columnOf(cell);
        int some = tiles.all();
        if (row == 0) {
            some &= tiles.withEdge(UP, edgeColour(x, y - 1, 1, column));
        }
        if (column == CHUNK_SIDE - 1) {
            some &= tiles.withEdge(RIGHT, edgeColour(x, y, 0, row));
        }
        if (row == CHUNK_SIDE - 1) {
            some &= tiles.withEdge(DOWN, edgeColour(x, y, 1, column));
        }
        if (column == 0) {
            some &= tiles.withEdge(LEFT, edgeColour(x - 1, y, 0, row));
        }
        return some;
    }

    private boolean areBothWaysSame() {
        world.putInto(narrowed);
        narrowed.narrow();
        world.putInto(narrowedAnew);
        narrowedAnew.narrowBySweeps();
        for (int cell = 0; cell < world.grid.cells(); cell++) {
            if (narrowed.possible.get(cell) != narrowedAnew.possible.get(cell)) {
                return false;
            }
        }
        return true;
    }

    private boolean areNearChunksSame() {
        for (int number = 0; number < kept.count; number++) {
            int x = kept.places.get(2 * number);
            int y = kept.places.get(2 * number + 1);
            if (isFromTo(x, -1, 1) && isFromTo(y, -1, 1)) {
                putChunkIntoFilling(x, y);
                char end = chunkFilling.run(chunkState(x, y), CHUNK_LIMIT);
                if (!kept.isSame(number, end, chunkFilling.placing)) {
                    return false;
                }
            }
        }
        return true;
    }

    /** A row of numbers that looks at each place itself, so that none of its users can use a wrong one. */
    private static final class Row {
        private final int[] numbers;

        Row(int length) {
            numbers = new int[Math.max(length, 0)];
        }

        int get(int place) {
            return place >= 0 && place < numbers.length ? numbers[place] : 0;
        }

        void set(int place, int number) {
            if (place >= 0 && place < numbers.length) {
                numbers[place] = number;
            }
        }

        void setAll(int number) {
            for (int place = 0; place < numbers.length; place++) {
                numbers[place] = number;
            }
        }
    }

    /** The tiles. Some of them together are told by an int, with the bit of each one's number. */
    private static final class Tiles {
        private final Row colours = new Row(MOST_TILES * DIRECTIONS);
        private final Row weights = new Row(MOST_TILES);
        private final Row byEdge = new Row(DIRECTIONS * COLOURS);
        private int count;

        int add(int up, int right, int down, int left, int weight) {
            int tile = count;
            count++;
            weights.set(tile, weight);
            paint(tile, UP, up);
            paint(tile, RIGHT, right);
            paint(tile, DOWN, down);
            paint(tile, LEFT, left);
            return tile;
        }

        private void paint(int tile, int direction, int colour) {
            int edge = direction * COLOURS + colour;
            colours.set(tile * DIRECTIONS + direction, colour);
            byEdge.set(edge, byEdge.get(edge) | (1 << tile));
        }

        boolean has(int tile) {
            return tile >= 0 && tile < count;
        }

        int all() {
            return (1 << count) - 1;
        }

        int colour(int tile, int direction) {
            return colours.get(tile * DIRECTIONS + direction);
        }

        int withEdge(int direction, int colour) {
            return byEdge.get(direction * COLOURS + colour);
        }

        boolean fit(int tile, int other, int direction) {
            return colour(tile, direction) == colour(other, opposite(direction));
        }

        boolean hasRoad(int tile) {
            for (int direction = 0; direction < DIRECTIONS; direction++) {
                if (colour(tile, direction) == ROAD) {
                    return true;
                }
            }
            return false;
        }

        /** The tiles that fit in a direction beside at least one of some. */
        int fittingBeside(int some, int direction) {
            int back = opposite(direction);
            int fitting = 0;
            for (int colour = 0; colour < COLOURS; colour++) {
                if ((some & byEdge.get(direction * COLOURS + colour)) != 0) {
                    fitting |= byEdge.get(back * COLOURS + colour);
                }
            }
            return fitting;
        }

        int lowest(int some) {
            for (int tile = 0; tile < MOST_TILES; tile++) {
                if (isOneOf(tile, some)) {
                    return tile;
                }
            }
            return NONE;
        }

        int draw(int some, int number) {
            int sum = 0;
            for (int tile = 0; tile < count; tile++) {
                sum += isOneOf(tile, some) ? weights.get(tile) : 0;
            }
            int rest = sum > 0 ? number % sum : 0;
            int upTo = 0;
            for (int tile = 0; tile < count; tile++) {
                upTo += isOneOf(tile, some) ? weights.get(tile) : 0;
                if (upTo > rest) {
                    return tile;
                }
            }
            return lowest(some);
        }
    }

    /** The cells of a world or of a chunk, and how they lie. */
    private static final class Grid {
        private int width;
        private int height;

        Grid(int width, int height) {
            this.width = width;
            this.height = height;
        }

        void resize(int width, int height) {
            this.width = width;
            this.height = height;
        }

        int cells() {
            return width * height;
        }

        boolean has(int cell) {
            return cell >= 0 && cell < width * height;
        }

        int rowOf(int cell) {
            return width > 0 ? cell / width : 0;
        }

        int columnOf(int cell) {
            return width > 0 ? cell % width : 0;
        }

        int beside(int cell, int direction) {
            if (direction == UP) {
                return rowOf(cell) > 0 ? cell - width : NONE;
            }
            if (direction == RIGHT) {
                return columnOf(cell) < width - 1 ? cell + 1 : NONE;
            }
            if (direction == DOWN) {
                return rowOf(cell) < height - 1 ? cell + width : NONE;
            }
            return columnOf(cell) > 0 ? cell - 1 : NONE;
        }
    }

    private static final class Wishes {
        private final Row most = new Row(MOST_TILES);
        private boolean isOneRoad;

        Wishes() {
            most.setAll(NONE);
        }

        boolean allow(int tile, int cells) {
            int allowed = most.get(tile);
            return allowed == NONE || cells <= allowed;
        }
    }

    /** The size of a world with what is fixed and banned in it. */
    private static final class World {
        private final Tiles tiles;
        private final Grid grid = new Grid(FIRST_SIDE, FIRST_SIDE);
        private final Row fixed = new Row(MOST_CELLS);
        private final Row banned = new Row(MOST_CELLS);

        World(Tiles tiles) {
            this.tiles = tiles;
            fixed.setAll(NONE);
        }

        void renew(int width, int height) {
            grid.resize(width, height);
            fixed.setAll(NONE);
            banned.setAll(0);
        }

        int fixTile(int cell, int tile) {
            int before = fixed.get(cell);
            fixed.set(cell, tile);
            return before;
        }

        boolean banTile(int cell, int tile) {
            int before = banned.get(cell);
            banned.set(cell, before | (1 << tile));
            return isOneOf(tile, before);
        }

        int free(int cell) {
            int freed = Integer.bitCount(banned.get(cell)) + (fixed.get(cell) == NONE ? 0 : 1);
            fixed.set(cell, NONE);
            banned.set(cell, 0);
            return freed;
        }

        int possibleIn(int cell) {
            int tile = fixed.get(cell);
            int some = tile == NONE ? tiles.all() : 1 << tile;
            return some & ~banned.get(cell);
        }

        void putInto(Narrowing narrowing) {
            for (int cell = 0; cell < grid.cells(); cell++) {
                narrowing.change(cell, possibleIn(cell));
            }
        }
    }

    /** A tile for each cell, and what can be asked of all of them together. */
    private static final class Placing {
        private final Tiles tiles;
        private final Grid grid;
        private final Row tileIn = new Row(MOST_CELLS);
        private final Row counts = new Row(MOST_TILES);
        private final Row isSeen = new Row(MOST_CELLS);
        private final Row reached = new Row(MOST_CELLS);

        Placing(Tiles tiles, Grid grid) {
            this.tiles = tiles;
            this.grid = grid;
        }

        boolean isFitting() {
            for (int cell = 0; cell < grid.cells(); cell++) {
                for (int direction = 0; direction < DIRECTIONS; direction++) {
                    int other = grid.beside(cell, direction);
                    if (other != NONE && !tiles.fit(tileIn.get(cell), tileIn.get(other), direction)) {
                        return false;
                    }
                }
            }
            return true;
        }

        boolean holds(Wishes wishes) {
            counts.setAll(0);
            for (int cell = 0; cell < grid.cells(); cell++) {
                int tile = tileIn.get(cell);
                counts.set(tile, counts.get(tile) + 1);
                if (!wishes.allow(tile, counts.get(tile))) {
                    return false;
                }
            }
            return isRoadAs(wishes);
        }

        boolean isRoadAs(Wishes wishes) {
            return !wishes.isOneRoad || pieces() <= 1;
        }

        int roadCells() {
            int cells = 0;
            for (int cell = 0; cell < grid.cells(); cell++) {
                cells += tiles.hasRoad(tileIn.get(cell)) ? 1 : 0;
            }
            return cells;
        }

        int pieces() {
            isSeen.setAll(0);
            int pieces = 0;
            for (int cell = 0; cell < grid.cells(); cell++) {
                if (isSeen.get(cell) == 0 && tiles.hasRoad(tileIn.get(cell))) {
                    seePiece(cell);
                    pieces++;
                }
            }
            return pieces;
        }

        private void seePiece(int first) {
            isSeen.set(first, 1);
            reached.set(0, first);
            int waiting = 1;
            // Each cell is reached once at most, so there are no more steps than cells.
            for (int step = 0; step < MOST_CELLS && waiting > 0; step++) {
                waiting--;
                int cell = reached.get(waiting);
                for (int direction = 0; direction < DIRECTIONS; direction++) {
                    int other = grid.beside(cell, direction);
                    if (other != NONE && isSeen.get(other) == 0
                            && tiles.colour(tileIn.get(cell), direction) == ROAD
                            && tiles.colour(tileIn.get(other), opposite(direction)) == ROAD) {
                        isSeen.set(other, 1);
                        reached.set(waiting, other);
                        waiting++;
                    }
                }
            }
        }
    }

    /** What is possible in each cell, which is narrowed in two ways that must come to the same. */
    private static final class Narrowing {
        // A cell waits once at first, and once more for each tile that it loses.
        private static final int MOST_STEPS = MOST_CELLS * (MOST_TILES + 1);
        // Each sweep but the last one takes a tile away.
        private static final int MOST_SWEEPS = MOST_CELLS * MOST_TILES + 1;

        private final Tiles tiles;
        private final Grid grid;
        private final Row possible = new Row(MOST_CELLS);
        private final Row isWaiting = new Row(MOST_CELLS);
        private final Row stack = new Row(MOST_CELLS);
        private int waiting;

        Narrowing(Tiles tiles, Grid grid) {
            this.tiles = tiles;
            this.grid = grid;
        }

        void change(int cell, int some) {
            possible.set(cell, some);
            if (isWaiting.get(cell) == 0) {
                isWaiting.set(cell, 1);
                stack.set(waiting, cell);
                waiting++;
            }
        }

        /** Narrows what lies beside the cells that were changed, and so on; elsewhere nothing can be taken. */
        void narrow() {
            for (int step = 0; step < MOST_STEPS && waiting > 0; step++) {
                waiting--;
                int cell = stack.get(waiting);
                isWaiting.set(cell, 0);
                for (int direction = 0; direction < DIRECTIONS; direction++) {
                    narrowBeside(cell, direction);
                }
            }
        }

        private void narrowBeside(int cell, int direction) {
            int other = grid.beside(cell, direction);
            if (other == NONE) {
                return;
            }
            int before = possible.get(other);
            int after = before & tiles.fittingBeside(possible.get(cell), direction);
            if (after != before) {
                change(other, after);
            }
        }

        /** Narrows all in the plainest way, which shares nothing with the other one. */
        void narrowBySweeps() {
            isWaiting.setAll(0);
            waiting = 0;
            boolean isTaken = true;
            for (int sweep = 0; sweep < MOST_SWEEPS && isTaken; sweep++) {
                isTaken = false;
                for (int cell = 0; cell < grid.cells(); cell++) {
                    if (takeUnfitting(cell)) {
                        isTaken = true;
                    }
                }
            }
        }

        private boolean takeUnfitting(int cell) {
            int before = possible.get(cell);
            int after = before;
            for (int tile = 0; tile < tiles.count; tile++) {
                if (isOneOf(tile, before) && !hasFittingNeighbours(cell, tile)) {
                    after &= ~(1 << tile);
                }
            }
            possible.set(cell, after);
            return after != before;
        }

        private boolean hasFittingNeighbours(int cell, int tile) {
            for (int direction = 0; direction < DIRECTIONS; direction++) {
                int neighbour = grid.beside(cell, direction);
                boolean isFitting = neighbour == NONE;
                for (int other = 0; other < tiles.count && !isFitting; other++) {
                    isFitting = isOneOf(other, possible.get(neighbour))
                            && tiles.fit(tile, other, direction);
                }
                if (!isFitting) {
                    return false;
                }
            }
            return true;
        }
    }

    /** The filling by guesses that are taken back; ahead of it, what is possible is put into its narrowing. */
    private static final class Filling {
        // A guess leaves its cell one tile alone, so no more guesses than cells stand at once; with
        // at most 200 taken back there are fewer than 300 guesses, and fewer than 500 steps.
        private static final int MOST_STEPS = 1000;

        private final Tiles tiles;
        private final Grid grid;
        private final Wishes wishes;
        private final Narrowing narrowing;
        private final Placing placing;
        private final Row alone = new Row(MOST_TILES);
        private final Row before = new Row(MOST_CELLS * MOST_CELLS);
        private final Row guessedCell = new Row(MOST_CELLS);
        private final Row guessedTile = new Row(MOST_CELLS);
        private int standing;
        private int state;
        private int guesses;
        private int takenBack;

        Filling(Tiles tiles, Grid grid, Wishes wishes) {
            this.tiles = tiles;
            this.grid = grid;
            this.wishes = wishes;
            narrowing = new Narrowing(tiles, grid);
            placing = new Placing(tiles, grid);
        }

        char run(int firstState, int limit) {
            state = firstState;
            standing = 0;
            guesses = 0;
            takenBack = 0;
            narrowing.narrow();
            for (int step = 0; step < MOST_STEPS; step++) {
                boolean isWrong = hasGoneWrong();
                int cell = cellWithFewest();
                if (cell == NONE) {
                    placeTiles();
                }
                if (!isWrong && cell != NONE) {
                    guess(cell);
                } else if (!isWrong && placing.isRoadAs(wishes)) {
                    return FILLED;
                } else if (standing == 0) {
                    return NOT_FILLABLE;
                } else if (takenBack >= limit) {
                    return GIVEN_UP;
                } else {
                    takeBack();
                }
            }
            return GIVEN_UP;
        }

        private boolean hasGoneWrong() {
            alone.setAll(0);
            for (int cell = 0; cell < grid.cells(); cell++) {
                int some = narrowing.possible.get(cell);
                if (some == 0) {
                    return true;
                }
                if (Integer.bitCount(some) == 1) {
                    int tile = tiles.lowest(some);
                    alone.set(tile, alone.get(tile) + 1);
                    if (!wishes.allow(tile, alone.get(tile))) {
                        return true;
                    }
                }
            }
            return false;
        }

        private int cellWithFewest() {
            int found = NONE;
            int fewest = MOST_TILES + 1;
            for (int cell = 0; cell < grid.cells(); cell++) {
                int many = Integer.bitCount(narrowing.possible.get(cell));
                if (many > 1 && many < fewest) {
                    found = cell;
                    fewest = many;
                }
            }
            return found;
        }

        private void placeTiles() {
            for (int cell = 0; cell < grid.cells(); cell++) {
                placing.tileIn.set(cell, tiles.lowest(narrowing.possible.get(cell)));
            }
        }

        private void guess(int cell) {
            for (int other = 0; other < grid.cells(); other++) {
                before.set(standing * MOST_CELLS + other, narrowing.possible.get(other));
            }
            state = (state * 1103515245 + 12345) & 2147483647;
            int tile = tiles.draw(narrowing.possible.get(cell), state >> 8);
            guessedCell.set(standing, cell);
            guessedTile.set(standing, tile);
            standing++;
            guesses++;
            narrowing.change(cell, 1 << tile);
            narrowing.narrow();
        }

        private void takeBack() {
            standing--;
            takenBack++;
            for (int other = 0; other < grid.cells(); other++) {
                narrowing.possible.set(other, before.get(standing * MOST_CELLS + other));
            }
            int cell = guessedCell.get(standing);
            int others = narrowing.possible.get(cell) & ~(1 << guessedTile.get(standing));
            narrowing.change(cell, others);
            narrowing.narrow();
        }
    }

    /** The chunks that are kept. */
    private static final class Chunks {
        private final Row places = new Row(MOST_CHUNKS * 2);
        private final Row ends = new Row(MOST_CHUNKS);
        private final Row tileIn = new Row(MOST_CHUNKS * CHUNK_CELLS);
        private int count;

        void clear() {
            count = 0;
        }

        int find(int x, int y) {
            for (int number = 0; number < count; number++) {
                if (places.get(2 * number) == x && places.get(2 * number + 1) == y) {
                    return number;
                }
            }
            return NONE;
        }

        void keep(int x, int y, char end, Placing placing) {
            places.set(2 * count, x);
            places.set(2 * count + 1, y);
            ends.set(count, end);
            for (int cell = 0; cell < CHUNK_CELLS; cell++) {
                tileIn.set(count * CHUNK_CELLS + cell, placing.tileIn.get(cell));
            }
            count++;
        }

        char endOf(int number) {
            return (char) ends.get(number);
        }

        int tileOf(int number, int cell) {
            return tileIn.get(number * CHUNK_CELLS + cell);
        }

        boolean isSame(int number, char end, Placing placing) {
            if (endOf(number) != end) {
                return false;
            }
            for (int cell = 0; cell < CHUNK_CELLS && end == FILLED; cell++) {
                if (tileOf(number, cell) != placing.tileIn.get(cell)) {
                    return false;
                }
            }
            return true;
        }
    }
}
