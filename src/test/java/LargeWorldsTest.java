import java.util.Map;
import java.util.Random;
import java.util.TreeMap;
import java.util.function.BiConsumer;

/** Promises 11 to 13, 26 and 28 in the largest worlds, where narrowing goes on for long and comes back to its cells. */
public final class LargeWorldsTest {
    private static final int SIDE = 6;
    private static final int CELLS = SIDE * SIDE;
    private static final int RANDOM_WORLDS = 6000;
    private static final int RANDOM_FILLINGS = 2400;

    /**
     * The edges of 8 tiles, and the tiles that are banned in each cell, as bits; a search found them. In the first
     * four, narrowing goes 250 times from a cell to its neighbours; the others need 59 to 66 sweeps over all cells.
     */
    private static final String[] LONGEST = {
        "0031 2002 3210 1132 3123 0202 3200 3232 |"
            + " 18 136 194 46 36 130 80 224 132 4 64 128 64 96 4 4 64 64"
            + " 176 96 0 0 0 64 0 0 0 0 4 36 240 36 0 0 32 64",
        "0303 1311 0101 3022 2101 3113 2300 1113 |"
            + " 65 130 19 19 146 180 64 0 0 2 2 0 64 0 4 128 4 0"
            + " 102 2 1 2 1 129 0 2 4 2 129 1 4 0 1 132 2 4",
        "1322 1030 3233 3232 2211 0020 2013 3330 |"
            + " 75 232 2 44 5 4 65 2 5 1 6 6 2 8 128 0 0 2"
            + " 14 10 2 2 12 0 2 6 1 2 0 6 65 136 1 0 0 2",
        "2000 1011 0130 3233 3002 3111 1110 0212 |"
            + " 131 7 48 195 80 1 32 32 128 64 192 2 18 4 130 0 128 130"
            + " 160 32 80 4 4 4 32 32 16 64 32 192 8 80 4 0 128 128",
        "3033 2123 1010 2111 2321 3333 1120 2011 |"
            + " 1 14 193 194 81 194 226 8 96 80 2 81 14 96 1 0 104 60"
            + " 162 44 12 44 8 56 46 32 64 208 44 72 142 81 10 3 62 64",
        "1210 1020 3223 2010 3333 1332 2222 1022 |"
            + " 232 68 90 103 8 70 99 24 133 34 8 186 0 134 16 168 152 133"
            + " 209 216 34 128 5 46 43 17 34 136 168 137 1 166 133 146 130 8",
        "1211 1333 0101 0112 3103 1202 1202 3333 |"
            + " 5 76 42 140 240 202 51 66 32 1 0 241 193 33 64 161 72 1"
            + " 120 64 65 129 0 83 161 34 32 33 10 163 82 3 26 196 81 226",
        "1313 2222 0311 2213 1103 2201 1322 0101 |"
            + " 39 50 192 166 137 76 192 36 38 24 14 124 108 76 33 136 138 224"
            + " 129 112 4 68 32 28 11 0 36 6 65 84 48 232 3 90 168 26",
    };

    private static final Map<String, Integer> ENDS = new TreeMap<>();
    private static int longest = 0;
    private static int narrowed = 0;

    private final int[][] tiles;
    private final int[] banned;
    private final int width;
    private final int height;

    private LargeWorldsTest(int[][] tiles, int[] banned, int width, int height) {
        this.tiles = tiles;
        this.banned = banned;
        this.width = width;
        this.height = height;
    }

    private static LargeWorldsTest of(String world) {
        String[] parts = world.split(" \\| ");
        String[] edges = parts[0].split(" ");
        String[] bans = parts[1].split(" ");
        int[][] tiles = new int[edges.length][4];
        for (int tile = 0; tile < tiles.length; tile++) {
            for (int direction = 0; direction < 4; direction++) {
                tiles[tile][direction] = edges[tile].charAt(direction) - '0';
            }
        }
        int[] banned = new int[CELLS];
        for (int cell = 0; cell < CELLS; cell++) {
            banned[cell] = Integer.parseInt(bans[cell]);
        }
        return new LargeWorldsTest(tiles, banned, SIDE, SIDE);
    }

    private static LargeWorldsTest random(Random random) {
        int[][] tiles = new int[4 + random.nextInt(5)][4];
        int colours = 2 + random.nextInt(3);
        for (int[] tile : tiles) {
            for (int direction = 0; direction < 4; direction++) {
                tile[direction] = random.nextInt(colours);
            }
        }
        int[] banned = new int[CELLS];
        for (int bans = random.nextInt(40); bans > 0; bans--) {
            banned[random.nextInt(CELLS)] |= 1 << random.nextInt(tiles.length);
        }
        return new LargeWorldsTest(tiles, banned, SIDE, random.nextInt(4) == 0 ? SIDE - 1 : SIDE);
    }

    private int beside(int cell, int direction) {
        int column = cell % width + (direction == 1 ? 1 : direction == 3 ? -1 : 0);
        int row = cell / width + (direction == 2 ? 1 : direction == 0 ? -1 : 0);
        return column < 0 || column >= width || row < 0 || row >= height ? -1 : row * width + column;
    }

    private boolean isPossible(int[] some, int cell, int tile) {
        for (int direction = 0; direction < 4; direction++) {
            int beside = beside(cell, direction);
            boolean isFitting = beside < 0;
            for (int other = 0; other < tiles.length; other++) {
                isFitting |= beside >= 0 && (some[beside] & 1 << other) != 0
                        && tiles[tile][direction] == tiles[other][(direction + 2) % 4];
            }
            if (!isFitting) {
                return false;
            }
        }
        return true;
    }

    /** Takes tiles away from the last cell on; the document leaves the order free, as the end is the same by any. */
    private int[] narrowed() {
        int[] some = new int[width * height];
        for (int cell = 0; cell < some.length; cell++) {
            some[cell] = (1 << tiles.length) - 1 & ~banned[cell];
        }
        int taken = 0;
        int takenBefore = -1;
        while (taken != takenBefore) {
            takenBefore = taken;
            for (int cell = some.length - 1; cell >= 0; cell--) {
                for (int tile = 0; tile < tiles.length; tile++) {
                    if ((some[cell] & 1 << tile) != 0 && !isPossible(some, cell, tile)) {
                        some[cell] &= ~(1 << tile);
                        taken++;
                    }
                }
            }
        }
        longest = Math.max(longest, taken);
        return some;
    }

    private void eachBan(BiConsumer<Integer, Integer> ban) {
        for (int cell = 0; cell < width * height; cell++) {
            for (int tile = 0; tile < tiles.length; tile++) {
                if ((banned[cell] & 1 << tile) != 0) {
                    ban.accept(cell, tile);
                }
            }
        }
    }

    private Tilehold maker() {
        Tilehold maker = new Tilehold();
        for (int tile = 0; tile < tiles.length; tile++) {
            maker.addTile(tiles[tile][0], tiles[tile][1], tiles[tile][2], tiles[tile][3], 1 + tile);
        }
        maker.setSize(width, height);
        eachBan(maker::ban);
        return maker;
    }

    private Model model() {
        Model model = new Model();
        for (int tile = 0; tile < tiles.length; tile++) {
            model.addTile(tiles[tile][0], tiles[tile][1], tiles[tile][2], tiles[tile][3], 1 + tile);
        }
        model.setSize(width, height);
        eachBan(model::ban);
        return model;
    }

    private void options(String what) {
        Tilehold maker = maker();
        int[] due = narrowed();
        int sum = 0;
        for (int cell = 0; cell < due.length; cell++) {
            int number = Integer.bitCount(due[cell]);
            Check.same(what + ": options(" + cell + ")", maker.options(cell), number);
            Check.same(what + ": optionsAnew(" + cell + ")", maker.optionsAnew(cell), number);
            sum += number;
        }
        narrowed += sum > 0 && sum < due.length * tiles.length ? 1 : 0;
        Check.same(what + ": meanOptions()", maker.meanOptions(), (double) sum / (double) due.length);
        Check.same(what + ": isSound()", maker.isSound(), true);
    }

    private void filling(String what, int seed, int limit) {
        Tilehold maker = maker();
        Model model = model();
        maker.setSeed(seed);
        model.setSeed(seed);
        // Of eight fillings two have no wish, and the others a wish for counts, for one road, or for both.
        int tile = seed / 8 % tiles.length;
        int most = seed % 4 == 0 ? -1 : seed % 13;
        maker.setMost(tile, most);
        model.setMost(tile, most);
        maker.setRoad(seed % 8 > 3);
        model.setRoad(seed % 8 > 3);
        char end = model.fill(limit);
        Check.same(what + ": fill(" + limit + ")", maker.fill(limit), end);
        Check.same(what + ": guesses()", maker.guesses(), model.guesses());
        Check.same(what + ": takenBack()", maker.takenBack(), model.takenBack());
        Check.same(what + ": isFilled()", maker.isFilled(), model.isFilled());
        ENDS.merge(String.valueOf(end), model.takenBack() > 0 ? 1 : 0, Integer::sum);
        if (model.isFilled()) {
            filled(what, maker, model);
        }
        Check.same(what + ": isSound()", maker.isSound(), true);
    }

    private void filled(String what, Tilehold maker, Model model) {
        for (int cell = 0; cell < width * height; cell++) {
            Check.same(what + ": tileAt(" + cell + ")", maker.tileAt(cell), model.tileAt(cell));
        }
        Check.same(what + ": worldSum()", maker.worldSum(), model.worldSum());
        Check.same(what + ": roads()", maker.roads(), model.roads());
        Check.same(what + ": roadShare()", maker.roadShare(), model.roadShare());
    }

    public static void main(String[] arguments) {
        for (int number = 0; number < LONGEST.length; number++) {
            of(LONGEST[number]).options("longest world " + number);
        }
        Random random = new Random(28);
        for (int number = 0; number < RANDOM_WORLDS; number++) {
            random(random).options("world " + number);
        }
        for (int seed = 0; seed < RANDOM_FILLINGS; seed++) {
            random(random).filling("filling " + seed, seed, seed % 3 == 0 ? seed % 7 : 200);
        }
        Check.same("many worlds are narrowed, and have tiles left", narrowed > RANDOM_WORLDS / 8, true);
        Check.same("narrowing takes many tiles", longest > 200, true);
        for (String end : new String[] {"d", "n", "l"}) {
            Check.same(end + " came up often, with some taken back", ENDS.getOrDefault(end, 0) > 50, true);
        }
        Check.end();
    }
}
