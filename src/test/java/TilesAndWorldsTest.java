import java.util.NoSuchElementException;

/** Promises 1 to 10. */
public final class TilesAndWorldsTest {
    private static final Class<IllegalArgumentException> ILLEGAL = IllegalArgumentException.class;
    private static final Class<IllegalStateException> STATE = IllegalStateException.class;
    private static final Class<IndexOutOfBoundsException> INDEX = IndexOutOfBoundsException.class;
    private static final Class<NoSuchElementException> NO_SUCH = NoSuchElementException.class;

    private static Tilehold withTiles(int number) {
        Tilehold maker = new Tilehold();
        for (int tile = 0; tile < number; tile++) {
            maker.addTile(0, 0, 0, 0, 1);
        }
        return maker;
    }

    private static Tilehold filled(int number) {
        Tilehold maker = withTiles(number);
        Check.same("fill for a test", maker.fill(200), 'd');
        Check.same("isFilled ahead of a test", maker.isFilled(), true);
        return maker;
    }

    private static void promise1NewObject() {
        Tilehold maker = new Tilehold();
        Check.same("new options(0)", maker.options(0), 0);
        Check.same("new options(8)", maker.options(8), 0);
        Check.throwsOnly("new options(9)", INDEX, () -> maker.options(9));
        Check.same("new guesses", maker.guesses(), 0);
        Check.same("new takenBack", maker.takenBack(), 0);
        Check.same("new chunks", maker.chunks(), 0);
        Check.same("new isFilled", maker.isFilled(), false);
        Check.same("new setRoad", maker.setRoad(false), false);
        Check.same("new setSeed", maker.setSeed(0), 0);
        Check.throwsOnly("new fix", NO_SUCH, () -> maker.fix(0, 0));
        Check.same("first tile", maker.addTile(0, 0, 0, 0, 1), 0);
        Check.same("new soften", maker.soften(0), 0);
        Check.same("new wish", maker.setMost(0, 5), -1);
        Tilehold other = new Tilehold();
        Check.throwsOnly("another object has tiles of its own", NO_SUCH, () -> other.fix(0, 0));
    }

    private static void promise2AddTile() {
        Tilehold maker = new Tilehold();
        int[][] wrong = {{4, 0, 0, 0, 1}, {0, 4, 0, 0, 1}, {0, 0, 4, 0, 1}, {0, 0, 0, 4, 1}, {-1, 0, 0, 0, 1},
            {0, -1, 0, 0, 1}, {0, 0, -1, 0, 1}, {0, 0, 0, -1, 1}, {0, 0, 0, 0, 0}, {0, 0, 0, 0, 10},
            {Integer.MIN_VALUE, 0, 0, 0, 1}, {0, 0, 0, 0, Integer.MAX_VALUE}};
        for (int[] t : wrong) {
            Check.throwsOnly("addTile out of range", ILLEGAL, () -> maker.addTile(t[0], t[1], t[2], t[3], t[4]));
        }
        for (int tile = 0; tile < 8; tile++) {
            Check.same("addTile", maker.addTile(3, 0, 3, 0, tile == 0 ? 9 : 1), tile);
            Check.same("options as tiles come", maker.options(4), tile + 1);
        }
        Check.throwsOnly("a ninth tile", STATE, () -> maker.addTile(3, 3, 3, 3, 9));
        Check.throwsOnly("a ninth tile out of range", ILLEGAL, () -> maker.addTile(3, 3, 3, 3, 10));
        Check.same("options after both", maker.options(4), 8);

        Tilehold forgets = filled(1);
        forgets.visit(0, 0);
        Check.throwsOnly("addTile", ILLEGAL, () -> forgets.addTile(0, 0, 0, 0, 0));
        Check.same("isFilled after a throw", forgets.isFilled(), true);
        Check.same("chunks after a throw", forgets.chunks(), 1);
        forgets.addTile(2, 2, 2, 2, 1);
        Check.same("isFilled after addTile", forgets.isFilled(), false);
        Check.same("chunks after addTile", forgets.chunks(), 0);
    }

    private static void promise3SetSeed() {
        Tilehold maker = filled(1);
        maker.visit(0, 0);
        Check.throwsOnly("setSeed(-1)", ILLEGAL, () -> maker.setSeed(-1));
        Check.throwsOnly("setSeed(100000)", ILLEGAL, () -> maker.setSeed(100000));
        Check.same("isFilled after a throw", maker.isFilled(), true);
        Check.same("chunks after a throw", maker.chunks(), 1);
        Check.same("setSeed", maker.setSeed(99999), 0);
        Check.same("chunks after setSeed", maker.chunks(), 0);
        Check.same("isFilled after setSeed", maker.isFilled(), false);
        maker.fill(0);
        maker.visit(0, 0);
        Check.same("the same seed again", maker.setSeed(99999), 99999);
        Check.same("chunks after the same seed", maker.chunks(), 0);
        Check.same("isFilled after the same seed", maker.isFilled(), false);
        Check.same("setSeed(0)", maker.setSeed(0), 99999);
    }

    /** Seeds draw from weights 1, 9 and 2: ((seed * 1103515245 + 12345) & 2147483647) >> 8, modulo 12. */
    private static void promise3SeedTellsTheDraw() {
        int[] due = {0, 1, 1, 2};
        for (int seed = 0; seed < due.length; seed++) {
            Tilehold maker = new Tilehold();
            maker.addTile(0, 0, 0, 0, 1);
            maker.addTile(0, 0, 0, 0, 9);
            maker.addTile(0, 0, 0, 0, 2);
            maker.setSize(1, 1);
            maker.setSeed(seed);
            Check.same("fill", maker.fill(0), 'd');
            Check.same("tile drawn with seed " + seed, maker.tileAt(0), due[seed]);
        }
    }

    private static void promise4SetSize() {
        Tilehold maker = withTiles(2);
        maker.setMost(0, 3);
        maker.setRoad(true);
        maker.fix(0, 0);
        maker.ban(1, 0);
        maker.visit(0, 0);
        Check.throwsOnly("setSize(0, 3)", ILLEGAL, () -> maker.setSize(0, 3));
        Check.throwsOnly("setSize(3, 0)", ILLEGAL, () -> maker.setSize(3, 0));
        Check.throwsOnly("setSize(7, 3)", ILLEGAL, () -> maker.setSize(7, 3));
        Check.throwsOnly("setSize(3, 7)", ILLEGAL, () -> maker.setSize(3, 7));
        Check.throwsOnly("setSize with wrap", ILLEGAL, () -> maker.setSize(65536, 65536));
        Check.same("fixed after throws", maker.options(0), 1);
        Check.same("setSize(3, 3)", maker.setSize(3, 3), 9);
        Check.same("nothing fixed", maker.soften(0), 0);
        Check.same("nothing banned", maker.soften(1), 0);
        Check.same("setSize(6, 6)", maker.setSize(6, 6), 36);
        Check.same("last cell", maker.options(35), 2);
        Check.throwsOnly("cell 36", INDEX, () -> maker.options(36));
        Check.same("setSize(1, 1)", maker.setSize(1, 1), 1);
        Check.same("setSize(5, 2)", maker.setSize(5, 2), 10);
        Check.same("wish stays", maker.setMost(0, 3), 3);
        Check.same("road wish stays", maker.setRoad(true), true);
        Check.same("chunks stay", maker.chunks(), 1);

        Tilehold full = filled(1);
        full.setSize(3, 3);
        Check.same("isFilled after setSize", full.isFilled(), false);
    }

    /** A tile whose right edge differs from its left one fits below itself alone, so rows show the width. */
    private static void promise4WidthGoesAcross() {
        Tilehold maker = new Tilehold();
        maker.addTile(0, 2, 0, 3, 1);
        maker.setSize(1, 6);
        Check.same("a column is filled", maker.fill(0), 'd');
        maker.setSize(6, 1);
        Check.same("a row is not", maker.fill(0), 'n');
    }

    private static void promise5Fix() {
        Tilehold maker = filled(3);
        Check.throwsOnly("fix(9, 0)", INDEX, () -> maker.fix(9, 0));
        Check.throwsOnly("fix(-1, 0)", INDEX, () -> maker.fix(-1, 0));
        Check.throwsOnly("fix(9, 9)", INDEX, () -> maker.fix(9, 9));
        Check.throwsOnly("fix(0, 3)", NO_SUCH, () -> maker.fix(0, 3));
        Check.throwsOnly("fix(0, -1)", NO_SUCH, () -> maker.fix(0, -1));
        Check.same("isFilled after throws", maker.isFilled(), true);
        Check.same("fix", maker.fix(8, 2), -1);
        Check.same("isFilled after fix", maker.isFilled(), false);
        Check.same("fix in place of another", maker.fix(8, 1), 2);
        Check.same("fix the same", maker.fix(8, 1), 1);
        Check.same("options where fixed", maker.options(8), 1);
        Check.same("options elsewhere", maker.options(7), 3);
        maker.fill(0);
        Check.same("the fixed tile", maker.tileAt(8), 1);
    }

    private static void promise6Ban() {
        Tilehold maker = filled(3);
        Check.throwsOnly("ban(9, 0)", INDEX, () -> maker.ban(9, 0));
        Check.throwsOnly("ban(-1, 9)", INDEX, () -> maker.ban(-1, 9));
        Check.throwsOnly("ban(0, 3)", NO_SUCH, () -> maker.ban(0, 3));
        Check.throwsOnly("ban(0, -1)", NO_SUCH, () -> maker.ban(0, -1));
        Check.same("isFilled after throws", maker.isFilled(), true);
        Check.same("ban", maker.ban(4, 0), false);
        Check.same("isFilled after ban", maker.isFilled(), false);
        maker.fill(0);
        Check.same("ban again", maker.ban(4, 0), true);
        Check.same("isFilled after a ban that was there", maker.isFilled(), false);
        Check.same("options where banned", maker.options(4), 2);
        Check.same("another ban", maker.ban(4, 2), false);
        maker.fill(0);
        Check.same("the tile that is left", maker.tileAt(4), 1);
        maker.fix(4, 0);
        Check.same("fixed and banned", maker.options(4), 0);
    }

    private static void promise7Soften() {
        Tilehold maker = filled(3);
        Check.throwsOnly("soften(9)", INDEX, () -> maker.soften(9));
        Check.throwsOnly("soften(-1)", INDEX, () -> maker.soften(-1));
        Check.same("isFilled after throws", maker.isFilled(), true);
        Check.same("soften nothing", maker.soften(0), 0);
        Check.same("isFilled after soften", maker.isFilled(), false);
        maker.ban(0, 0);
        maker.ban(0, 2);
        maker.ban(0, 2);
        maker.fix(0, 2);
        maker.ban(1, 1);
        Check.same("soften", maker.soften(0), 3);
        Check.same("options then", maker.options(0), 3);
        Check.same("soften again", maker.soften(0), 0);
        Check.same("the other cell", maker.options(1), 2);
        maker.fix(0, 0);
        Check.same("soften a fixed one", maker.soften(0), 1);
        Check.same("fix after soften", maker.fix(0, 1), -1);
    }

    private static void promise8SetMost() {
        Tilehold maker = filled(2);
        Check.throwsOnly("setMost(2, 0)", NO_SUCH, () -> maker.setMost(2, 0));
        Check.throwsOnly("setMost(2, 99)", NO_SUCH, () -> maker.setMost(2, 99));
        Check.throwsOnly("setMost(-1, 0)", NO_SUCH, () -> maker.setMost(-1, 0));
        Check.throwsOnly("setMost(0, 37)", ILLEGAL, () -> maker.setMost(0, 37));
        Check.throwsOnly("setMost(0, -2)", ILLEGAL, () -> maker.setMost(0, -2));
        Check.same("isFilled after throws", maker.isFilled(), true);
        Check.same("setMost", maker.setMost(0, 0), -1);
        Check.same("isFilled after setMost", maker.isFilled(), false);
        Check.same("setMost of another", maker.setMost(1, 36), -1);
        Check.same("setMost again", maker.setMost(0, -1), 0);
        Check.same("setMost once more", maker.setMost(0, 4), -1);
        Check.same("setMost of the other", maker.setMost(1, 4), 36);
        Check.same("wishes for 8 of 9 cells", maker.fill(200) == 'd', false);
        maker.setMost(1, 5);
        Check.same("wishes for 9 of 9 cells", maker.fill(200), 'd');
        Check.same("wishes don't narrow", maker.options(0), 2);
    }

    private static void promise9SetRoad() {
        Tilehold maker = filled(1);
        Check.same("setRoad", maker.setRoad(true), false);
        Check.same("isFilled after setRoad", maker.isFilled(), false);
        maker.fill(0);
        Check.same("setRoad again", maker.setRoad(true), true);
        Check.same("isFilled after setRoad again", maker.isFilled(), false);
        Check.same("setRoad off", maker.setRoad(false), true);
        Check.same("setRoad off again", maker.setRoad(false), false);
    }

    private static void promise10AreFitting() {
        Tilehold maker = new Tilehold();
        maker.addTile(0, 1, 2, 3, 1);
        maker.addTile(2, 3, 0, 1, 1);
        maker.addTile(1, 1, 1, 1, 1);
        boolean[][] due = {
            {false, false, false, false}, {true, true, true, true}, {false, true, false, false},
            {true, true, true, true}, {false, false, false, false}, {false, false, false, true},
            {false, false, false, true}, {false, true, false, false}, {true, true, true, true}};
        for (int pair = 0; pair < 9; pair++) {
            for (int direction = 0; direction < 4; direction++) {
                Check.same("areFitting(" + pair / 3 + ", " + pair % 3 + ", " + direction + ")",
                        maker.areFitting(pair / 3, pair % 3, direction), due[pair][direction]);
            }
        }
        Check.throwsOnly("no such tile", NO_SUCH, () -> maker.areFitting(3, 0, 0));
        Check.throwsOnly("no such other", NO_SUCH, () -> maker.areFitting(0, 3, 9));
        Check.throwsOnly("tile -1", NO_SUCH, () -> maker.areFitting(-1, 0, 0));
        Check.throwsOnly("other -1", NO_SUCH, () -> maker.areFitting(0, -1, 4));
        Check.throwsOnly("direction 4", ILLEGAL, () -> maker.areFitting(0, 0, 4));
        Check.throwsOnly("direction -1", ILLEGAL, () -> maker.areFitting(0, 0, -1));
    }

    public static void main(String[] arguments) {
        promise1NewObject();
        promise2AddTile();
        promise3SetSeed();
        promise3SeedTellsTheDraw();
        promise4SetSize();
        promise4WidthGoesAcross();
        promise5Fix();
        promise6Ban();
        promise7Soften();
        promise8SetMost();
        promise9SetRoad();
        promise10AreFitting();
        Check.end();
    }
}
