import java.util.Arrays;

/** Objects to begin a test with, and numbers to try. */
final class Maker {
    private Maker() {
    }

    interface Call {
        void on(Tilehold maker);
    }

    static Tilehold add(Tilehold maker, int[]... tiles) {
        for (int[] tile : tiles) {
            maker.addTile(tile[0], tile[1], tile[2], tile[3], tile[4]);
        }
        return maker;
    }

    static Tilehold of(int[]... tiles) {
        return add(new Tilehold(), tiles);
    }

    /** Tiles that fit beside one another in all directions, without a road. */
    static Tilehold alike(int... weights) {
        Tilehold maker = new Tilehold();
        for (int weight : weights) {
            maker.addTile(0, 0, 0, 0, weight);
        }
        return maker;
    }

    static Tilehold alikeTiles(int number) {
        int[] weights = new int[number];
        Arrays.fill(weights, 1);
        return alike(weights);
    }

    /** Two tiles that lie beside one another by turns, in rows and in columns. */
    static Tilehold byTurns() {
        return of(new int[] {2, 2, 3, 3, 1}, new int[] {3, 3, 2, 2, 1});
    }

    /**
     * Numbers out of a range: the first ones at either end, the ends of int, and those that a narrower type, a
     * shift, a product or a turned sign would bring back into it.
     */
    static int[] outOf(int least, int most) {
        int[] numbers = {least - 1, most + 1, Integer.MIN_VALUE, Integer.MAX_VALUE, Integer.MIN_VALUE + 1,
            Integer.MAX_VALUE - 1, Integer.MIN_VALUE + most, -most, -most - 1, least + 4, least + 8, least + 32,
            least + 64, most + 256, least + 65536, most + 65536, least + (1 << 29), most + (1 << 30),
            most - (1 << 30), 100000, 131072};
        return Arrays.stream(numbers).filter(number -> number < least || number > most).distinct().toArray();
    }

    /** What the n-th number drawn from a state comes to, in whole numbers that don't go round: s / 256. */
    static int drawn(int state, int times) {
        long s = state;
        for (int time = 0; time < times; time++) {
            s = Math.floorMod(s * 1103515245L + 12345L, 1L << 31);
        }
        return (int) (s / 256);
    }

    /** A seed whose first number drawn has a remainder. */
    static int seedFor(int remainder, int sum) {
        for (int seed = 0; seed <= 99999; seed++) {
            if (drawn(seed, 1) % sum == remainder) {
                return seed;
            }
        }
        throw new IllegalArgumentException("no seed draws " + remainder + " of " + sum);
    }
}
