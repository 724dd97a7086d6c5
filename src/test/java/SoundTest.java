import java.lang.reflect.Array;
import java.lang.reflect.Field;
import java.lang.reflect.Modifier;
import java.util.Collections;
import java.util.IdentityHashMap;
import java.util.List;
import java.util.Set;
import java.util.function.Supplier;

/**
 * Promise 28 once more. By calls alone nothing is ever unsound, so each number that an object holds is spoilt from
 * inside, one at a time; wherever it can then be seen by calls that something is unsound, isSound() must tell so.
 */
public final class SoundTest {
    private static final int SIDE = 3;

    /** A place inside an object that holds a number or a truth value: a field, or one of an array or of a list. */
    private record Spot(Object owner, Field field, int index) {
        private Object get() throws IllegalAccessException {
            if (field != null) {
                return field.get(owner);
            }
            return owner instanceof List<?> list ? list.get(index) : Array.get(owner, index);
        }

        @SuppressWarnings("unchecked")
        private void set(Object value) throws IllegalAccessException {
            if (field != null) {
                field.set(owner, value);
            } else if (owner instanceof List<?> list) {
                ((List<Object>) list).set(index, value);
            } else {
                Array.set(owner, index, value);
            }
        }

        void spoil(int change) throws IllegalAccessException {
            Object before = get();
            if (before instanceof Boolean isSo) {
                set(!isSo);
            } else if (before instanceof Integer number) {
                set(number + change);
            } else if (before instanceof Byte number) {
                set((byte) (number + change));
            } else if (before instanceof Short number) {
                set((short) (number + change));
            } else if (before instanceof Character sign) {
                set((char) (sign + change));
            } else if (before instanceof Long number) {
                set(number + change);
            }
        }
    }

    /** Goes through all that an object holds, in one order, to the spot of a number. */
    private static final class Walk {
        private final Set<Object> seen = Collections.newSetFromMap(new IdentityHashMap<>());
        private int passed;
        private int wanted;
        private Spot found;

        private void pass(Object owner, Field field, int first, int spots) {
            if (wanted >= passed && wanted < passed + spots) {
                found = new Spot(owner, field, first + wanted - passed);
            }
            passed += spots;
        }

        private void go(Object at) throws IllegalAccessException {
            if (at == null || !seen.add(at)) {
                return;
            }
            Class<?> type = at.getClass();
            if (at instanceof List<?> list) {
                for (int index = 0; index < list.size(); index++) {
                    if (list.get(index) instanceof Integer) {
                        pass(list, null, index, 1);
                    } else {
                        go(list.get(index));
                    }
                }
            } else if (type.isArray() && type.getComponentType().isPrimitive()) {
                pass(at, null, 0, Array.getLength(at));
            } else if (type.isArray()) {
                for (int index = 0; index < Array.getLength(at); index++) {
                    go(Array.get(at, index));
                }
            } else if (type.getName().startsWith("Tilehold") && !(at instanceof Enum)) {
                goThroughFields(at);
            }
        }

        private void goThroughFields(Object at) throws IllegalAccessException {
            for (Field field : at.getClass().getDeclaredFields()) {
                if (!Modifier.isStatic(field.getModifiers())) {
                    field.setAccessible(true);
                    if (!field.getType().isPrimitive()) {
                        go(field.get(at));
                    } else if (!at.getClass().isRecord()) {
                        pass(at, field, 0, 1);
                    }
                }
            }
        }
    }

    private static int spotsOf(Tilehold maker) throws IllegalAccessException {
        Walk walk = new Walk();
        walk.go(maker);
        return walk.passed;
    }

    private static Spot spot(Tilehold maker, int number) throws IllegalAccessException {
        Walk walk = new Walk();
        walk.wanted = number;
        walk.go(maker);
        return walk.found;
    }

    /** Answers what a question does, or a name for it if it throws: a spoilt object may answer anything. */
    private static String seen(Supplier<Object> question) {
        try {
            return String.valueOf(question.get());
        } catch (RuntimeException e) {
            return "throws";
        }
    }

    private static boolean areNeighboursUnfit(Tilehold maker) {
        for (int cell = 0; cell < SIDE * SIDE; cell++) {
            int at = cell;
            boolean isLast = cell % SIDE == SIDE - 1;
            if (!isLast && seen(() -> maker.areFitting(maker.tileAt(at), maker.tileAt(at + 1), 1)).equals("false")
                    || seen(() -> maker.areFitting(maker.tileAt(at), maker.tileAt(at + SIDE), 2)).equals("false")) {
                return true;
            }
        }
        return false;
    }

    private static boolean areBothWaysApart(Tilehold maker) {
        for (int cell = 0; cell < SIDE * SIDE; cell++) {
            int at = cell;
            if (!seen(() -> maker.options(at)).equals(seen(() -> maker.optionsAnew(at)))) {
                return true;
            }
        }
        return false;
    }

    /** Asked last, for it takes the wishes away; what the tiles are is asked ahead of it. */
    private static boolean isWishBroken(Tilehold maker, int tiles) {
        if (!maker.isFilled()) {
            return false;
        }
        int[] counts = new int[tiles];
        for (int cell = 0; cell < SIDE * SIDE; cell++) {
            int at = cell;
            for (int tile = 0; tile < tiles; tile++) {
                counts[tile] += seen(() -> maker.tileAt(at)).equals(String.valueOf(tile)) ? 1 : 0;
            }
        }
        String roads = seen(maker::roads);
        boolean isBroken = seen(() -> maker.setRoad(false)).equals("true") && number(roads) > 1;
        for (int tile = 0; tile < tiles; tile++) {
            int wished = tile;
            int most = number(seen(() -> maker.setMost(wished, -1)));
            isBroken |= most >= 0 && counts[tile] > most;
        }
        return isBroken;
    }

    private static int number(String answer) {
        return answer.equals("throws") ? -1 : Integer.parseInt(answer);
    }

    private static Tilehold byTurns() {
        Tilehold maker = Maker.byTurns();
        maker.setMost(0, 5);
        maker.fill(200);
        return maker;
    }

    private static Tilehold threeRoads() {
        Tilehold maker = Maker.of(new int[] {0, 1, 0, 1, 1});
        maker.fill(0);
        return maker;
    }

    private static Tilehold banned() {
        Tilehold maker = Maker.byTurns();
        maker.ban(0, 0);
        return maker;
    }

    /** Spoils each spot of three objects in turn; neighbours and wishes at least must be seen to be spoilt. */
    private static void worlds() throws IllegalAccessException {
        int[] times = new int[2];
        for (int object = 0; object < 3; object++) {
            int spots = spotsOf(object == 0 ? byTurns() : object == 1 ? threeRoads() : banned());
            for (int number = 0; number < spots; number++) {
                for (int change : new int[] {1, -1, 2}) {
                    Tilehold maker = object == 0 ? byTurns() : object == 1 ? threeRoads() : banned();
                    Check.same("isSound ahead of spoiling", maker.isSound(), true);
                    Spot spot = spot(maker, number);
                    spot.spoil(change);
                    String sound = seen(maker::isSound);
                    boolean isUnfit = maker.isFilled() && areNeighboursUnfit(maker);
                    boolean areApart = areBothWaysApart(maker);
                    boolean isBroken = isWishBroken(maker, object == 1 ? 1 : 2);
                    // What is spoilt may belong to all objects, so it is put right.
                    spot.spoil(-change);
                    times[0] += isUnfit ? 1 : 0;
                    times[1] += isBroken ? 1 : 0;
                    if (isUnfit || areApart || isBroken) {
                        Check.same("spot " + number + " of object " + object + ", unfit " + isUnfit + ", apart "
                                + areApart + ", broken " + isBroken, sound, "false");
                    }
                }
            }
        }
        Check.same("neighbours that do not fit were seen", times[0] > 0, true);
        Check.same("wishes that do not hold were seen", times[1] > 0, true);
    }

    private static Tilehold withChunk(int x, int y) {
        Tilehold maker = Maker.of(BoundsOfChunksTest.NEIGHBOURS);
        maker.setSeed(Math.floorMod(1 - 31 * x - y, 64));
        Check.same("a filled chunk", maker.visit(x, y), 'd');
        return maker;
    }

    private static String chunkOf(Tilehold maker, int x, int y) {
        StringBuilder tiles = new StringBuilder();
        for (int cell = 0; cell < 9; cell++) {
            int at = cell;
            tiles.append(' ').append(seen(() -> maker.chunkTile(x, y, at)));
        }
        return tiles.toString();
    }

    /** A chunk is seen to be spoilt by its tiles, or by its end; only a near one is looked at. */
    private static void chunk(int x, int y) throws IllegalAccessException {
        boolean isNear = x >= -1 && x <= 1 && y >= -1 && y <= 1;
        String due = chunkOf(withChunk(x, y), x, y);
        int spots = spotsOf(withChunk(x, y));
        int times = 0;
        for (int number = 0; number < spots; number++) {
            Tilehold maker = withChunk(x, y);
            Spot spot = spot(maker, number);
            spot.spoil(1);
            String sound = seen(maker::isSound);
            String got = chunkOf(maker, x, y);
            boolean isKept = maker.chunks() == 1 && !seen(() -> maker.visit(x, y)).equals("throws");
            spot.spoil(-1);
            if (!got.equals(due) && isKept && maker.chunks() == 1) {
                times++;
                Check.same("spot " + number + " of a chunk at " + x + ", " + y, sound, String.valueOf(!isNear));
            }
        }
        Check.same("a spoilt chunk was seen", times > 0, true);
    }

    public static void main(String[] arguments) throws IllegalAccessException {
        worlds();
        for (int x = -2; x <= 2; x++) {
            for (int y = -2; y <= 2; y++) {
                chunk(x, y);
            }
        }
        Check.end();
    }
}
