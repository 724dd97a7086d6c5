import java.lang.reflect.Field;
import java.util.Arrays;

/**
 * Promise 28 once more: by calls alone nothing is ever unsound, so what isSound() looks at is spoilt from
 * inside, to see that it tells.
 */
public final class SoundTest {
    private static Object inside(Object owner, String... path) throws ReflectiveOperationException {
        Object at = owner;
        for (String name : path) {
            Field field = at.getClass().getDeclaredField(name);
            field.setAccessible(true);
            at = field.get(at);
        }
        return at;
    }

    private static int[] row(Object owner, String... path) throws ReflectiveOperationException {
        return (int[]) inside(inside(owner, path), "numbers");
    }

    private static Tilehold byTurns() {
        Tilehold maker = new Tilehold();
        maker.addTile(2, 2, 3, 3, 1);
        maker.addTile(3, 3, 2, 2, 1);
        maker.fill(0);
        return maker;
    }

    private static void filledWorld() throws ReflectiveOperationException {
        for (int cell = 0; cell < 9; cell++) {
            Tilehold maker = byTurns();
            Check.same("ahead of spoiling", maker.isSound(), true);
            row(maker, "filling", "placing", "tileIn")[cell] ^= 1;
            Check.same("neighbours that do not fit", maker.isSound(), false);
            maker.setSeed(0);
            Check.same("a world that is not filled", maker.isSound(), true);
        }
    }

    private static void wishes() throws ReflectiveOperationException {
        Tilehold maker = byTurns();
        row(maker, "wishes", "most")[1] = 3;
        Check.same("a wish of the most cells", maker.isSound(), false);
        Tilehold roads = new Tilehold();
        roads.addTile(0, 1, 0, 1, 1);
        roads.fill(0);
        Check.same("three roads", roads.roads(), 3);
        Field wish = inside(roads, "wishes").getClass().getDeclaredField("isOneRoad");
        wish.setAccessible(true);
        wish.set(inside(roads, "wishes"), true);
        Check.same("a wish of one road", roads.isSound(), false);
    }

    private static void bothWays() throws ReflectiveOperationException {
        Tilehold maker = byTurns();
        maker.ban(0, 0);
        Check.same("ahead of spoiling", maker.isSound(), true);
        Arrays.fill(row(maker, "tiles", "byEdge"), 0);
        Check.same("two ways that differ", maker.isSound(), false);
    }

    private static Tilehold withChunk(int x, int y) {
        int[][] tiles = {{0, 1, 3, 2}, {3, 1, 3, 2}, {3, 0, 2, 0}, {3, 0, 3, 1}, {2, 3, 1, 3}, {2, 0, 2, 0},
            {3, 1, 3, 1}, {2, 3, 2, 0}};
        Tilehold maker = new Tilehold();
        for (int[] tile : tiles) {
            maker.addTile(tile[0], tile[1], tile[2], tile[3], 1);
        }
        for (int seed = 0; seed < 64; seed++) {
            maker.setSeed(seed);
            if (maker.visit(x, y) == 'd') {
                return maker;
            }
        }
        Check.fail("no chunk was filled");
        return maker;
    }

    private static void nearChunks() throws ReflectiveOperationException {
        for (int x = -2; x <= 2; x++) {
            for (int y = -2; y <= 2; y++) {
                boolean isNear = x * x <= 1 && y * y <= 1;
                for (int cell = 0; cell < 9; cell++) {
                    Tilehold maker = withChunk(x, y);
                    Check.same("ahead of spoiling", maker.isSound(), true);
                    row(maker, "kept", "tileIn")[cell] ^= 1;
                    Check.same("a chunk's tile at " + x + ", " + y, maker.isSound(), !isNear);
                }
                Tilehold maker = withChunk(x, y);
                row(maker, "kept", "ends")[0] = 'n';
                Check.same("a chunk's end at " + x + ", " + y, maker.isSound(), !isNear);
            }
        }
    }

    public static void main(String[] arguments) throws ReflectiveOperationException {
        filledWorld();
        wishes();
        bothWays();
        nearChunks();
        Check.end();
    }
}
