import java.util.ArrayDeque;
import java.util.ArrayList;
import java.util.Arrays;
import java.util.Deque;
import java.util.HashMap;
import java.util.HashSet;
import java.util.LinkedHashMap;
import java.util.List;
import java.util.Map;
import java.util.NoSuchElementException;
import java.util.Set;
import java.util.TreeSet;

/** The document once more, as plainly as the Java library allows, to compare Tilehold's answers with. */
public final class Model {
    private static final int[] ACROSS = {0, 1, 0, -1};
    private static final int[] DOWNWARD = {-1, 0, 1, 0};

    private final List<int[]> tiles = new ArrayList<>();
    private final Map<Integer, Integer> wishes = new HashMap<>();
    private final Map<String, int[]> chunks = new LinkedHashMap<>();
    private boolean road;
    private int seed;
    private int width = 3;
    private int height = 3;
    private Integer[] fixed = new Integer[9];
    private List<Set<Integer>> banned = sets(9);
    private int[] filled;
    private int guesses;
    private int takenBack;

    private static List<Set<Integer>> sets(int number) {
        List<Set<Integer>> all = new ArrayList<>();
        for (int i = 0; i < number; i++) {
            all.add(new TreeSet<>());
        }
        return all;
    }

    private static List<Set<Integer>> copy(List<Set<Integer>> sets) {
        List<Set<Integer>> all = new ArrayList<>();
        for (Set<Integer> one : sets) {
            all.add(new TreeSet<>(one));
        }
        return all;
    }

    private static void range(int number, int least, int most) {
        if (number < least || number > most) {
            throw new IllegalArgumentException();
        }
    }

    private void cell(int cell) {
        if (cell < 0 || cell >= width * height) {
            throw new IndexOutOfBoundsException();
        }
    }

    private void tile(int tile) {
        if (tile < 0 || tile >= tiles.size()) {
            throw new NoSuchElementException();
        }
    }

    private void filledOnly() {
        if (filled == null) {
            throw new IllegalStateException();
        }
    }

    public int addTile(int up, int right, int down, int left, int weight) {
        range(up, 0, 3);
        range(right, 0, 3);
        range(down, 0, 3);
        range(left, 0, 3);
        range(weight, 1, 9);
        if (tiles.size() == 8) {
            throw new IllegalStateException();
        }
        tiles.add(new int[] {up, right, down, left, weight});
        filled = null;
        chunks.clear();
        return tiles.size() - 1;
    }

    public int setSeed(int to) {
        range(to, 0, 99999);
        int before = seed;
        seed = to;
        filled = null;
        chunks.clear();
        return before;
    }

    public int setSize(int w, int h) {
        range(w, 1, 6);
        range(h, 1, 6);
        width = w;
        height = h;
        fixed = new Integer[w * h];
        banned = sets(w * h);
        filled = null;
        return w * h;
    }

    public int fix(int cell, int tile) {
        cell(cell);
        tile(tile);
        Integer before = fixed[cell];
        fixed[cell] = tile;
        filled = null;
        return before == null ? -1 : before;
    }

    public boolean ban(int cell, int tile) {
        cell(cell);
        tile(tile);
        filled = null;
        return !banned.get(cell).add(tile);
    }

    public int soften(int cell) {
        cell(cell);
        int many = banned.get(cell).size() + (fixed[cell] == null ? 0 : 1);
        banned.get(cell).clear();
        fixed[cell] = null;
        filled = null;
        return many;
    }

    public int setMost(int tile, int most) {
        tile(tile);
        range(most, -1, 36);
        int before = wishes.getOrDefault(tile, -1);
        wishes.remove(tile);
        if (most >= 0) {
            wishes.put(tile, most);
        }
        filled = null;
        return before;
    }

    public boolean setRoad(boolean isWished) {
        boolean before = road;
        road = isWished;
        filled = null;
        return before;
    }

    public boolean areFitting(int tile, int other, int direction) {
        tile(tile);
        tile(other);
        range(direction, 0, 3);
        return fits(tile, other, direction);
    }

    private boolean fits(int tile, int other, int direction) {
        return tiles.get(tile)[direction] == tiles.get(other)[(direction + 2) % 4];
    }

    private static int neighbour(int cell, int direction, int w, int h) {
        int column = cell % w + ACROSS[direction];
        int row = cell / w + DOWNWARD[direction];
        return column < 0 || column >= w || row < 0 || row >= h ? -1 : row * w + column;
    }

    private List<Set<Integer>> startOfWorld() {
        List<Set<Integer>> start = sets(width * height);
        for (int cell = 0; cell < width * height; cell++) {
            for (int tile = 0; tile < tiles.size(); tile++) {
                if ((fixed[cell] == null || fixed[cell] == tile) && !banned.get(cell).contains(tile)) {
                    start.get(cell).add(tile);
                }
            }
        }
        return start;
    }

    private void narrow(List<Set<Integer>> possible, int w, int h) {
        boolean goesOn = true;
        while (goesOn) {
            goesOn = false;
            for (int cell = w * h - 1; cell >= 0; cell--) {
                for (int tile : new ArrayList<>(possible.get(cell))) {
                    for (int direction = 0; direction < 4; direction++) {
                        int beside = neighbour(cell, direction, w, h);
                        int way = direction;
                        if (beside >= 0 && possible.get(beside).stream().noneMatch(o -> fits(tile, o, way))) {
                            goesOn |= possible.get(cell).remove(tile);
                        }
                    }
                }
            }
        }
    }

    private List<Set<Integer>> narrowedWorld() {
        List<Set<Integer>> possible = startOfWorld();
        narrow(possible, width, height);
        return possible;
    }

    public int options(int cell) {
        cell(cell);
        return narrowedWorld().get(cell).size();
    }

    public int optionsAnew(int cell) {
        return options(cell);
    }

    /** A filling under way; the stack's entries are what was possible ahead of a guess, its cell and tile. */
    private final class Filling {
        private final int w;
        private final int h;
        private final boolean isWithWishes;
        private List<Set<Integer>> possible;
        private final Deque<Object[]> stack = new ArrayDeque<>();
        private int state;
        private int made;
        private int back;
        private int[] found;

        Filling(List<Set<Integer>> start, int w, int h, int state, boolean isWithWishes) {
            this.possible = start;
            this.w = w;
            this.h = h;
            this.state = state;
            this.isWithWishes = isWithWishes;
        }

        private boolean isWrong() {
            Map<Integer, Integer> alone = new HashMap<>();
            for (Set<Integer> some : possible) {
                if (some.isEmpty()) {
                    return true;
                }
                if (some.size() == 1) {
                    alone.merge(some.iterator().next(), 1, Integer::sum);
                }
            }
            return isWithWishes && wishes.entrySet().stream()
                    .anyMatch(wish -> alone.getOrDefault(wish.getKey(), 0) > wish.getValue());
        }

        private int widest() {
            int best = -1;
            for (int cell = 0; cell < w * h; cell++) {
                int size = possible.get(cell).size();
                if (size > 1 && (best < 0 || size < possible.get(best).size())) {
                    best = cell;
                }
            }
            return best;
        }

        private int draw(Set<Integer> some) {
            long next = (long) state * 1103515245L + 12345L;
            state = (int) (next & 0x7fffffffL);
            List<Integer> lots = new ArrayList<>();
            for (int tile : some) {
                for (int i = 0; i < tiles.get(tile)[4]; i++) {
                    lots.add(tile);
                }
            }
            return lots.get((state >> 8) % lots.size());
        }

        char run(int limit) {
            narrow(possible, w, h);
            while (true) {
                boolean isWrong = isWrong();
                int cell = widest();
                if (!isWrong && cell < 0) {
                    found = possible.stream().mapToInt(some -> some.iterator().next()).toArray();
                    if (!isWithWishes || !road || pieces(found, w, h) <= 1) {
                        return 'd';
                    }
                    isWrong = true;
                }
                if (!isWrong) {
                    List<Set<Integer>> ahead = copy(possible);
                    int tile = draw(possible.get(cell));
                    stack.push(new Object[] {ahead, cell, tile});
                    made++;
                    possible.get(cell).retainAll(Set.of(tile));
                } else {
                    if (stack.isEmpty()) {
                        return 'n';
                    }
                    if (back == limit) {
                        return 'l';
                    }
                    back++;
                    Object[] latest = stack.pop();
                    @SuppressWarnings("unchecked")
                    List<Set<Integer>> ahead = (List<Set<Integer>>) latest[0];
                    possible = ahead;
                    possible.get((Integer) latest[1]).remove(latest[2]);
                }
                narrow(possible, w, h);
            }
        }
    }

    private boolean isRoadTile(int tile) {
        return Arrays.stream(tiles.get(tile), 0, 4).anyMatch(colour -> colour == 1);
    }

    /** Counts by giving each road cell a name of its own and letting the lower name win until none changes. */
    private int pieces(int[] tileIn, int w, int h) {
        int[] names = new int[tileIn.length];
        for (int cell = 0; cell < names.length; cell++) {
            names[cell] = isRoadTile(tileIn[cell]) ? cell : -1;
        }
        boolean goesOn = true;
        while (goesOn) {
            goesOn = false;
            for (int cell = 0; cell < names.length; cell++) {
                for (int direction = 0; direction < 4; direction++) {
                    int beside = neighbour(cell, direction, w, h);
                    if (beside >= 0 && tiles.get(tileIn[cell])[direction] == 1
                            && tiles.get(tileIn[beside])[(direction + 2) % 4] == 1
                            && names[beside] < names[cell]) {
                        names[cell] = names[beside];
                        goesOn = true;
                    }
                }
            }
        }
        Set<Integer> all = new HashSet<>();
        for (int name : names) {
            if (name >= 0) {
                all.add(name);
            }
        }
        return all.size();
    }

    public char fill(int limit) {
        range(limit, 0, 200);
        if (tiles.isEmpty()) {
            throw new IllegalStateException();
        }
        Filling filling = new Filling(startOfWorld(), width, height, seed, true);
        char end = filling.run(limit);
        guesses = filling.made;
        takenBack = filling.back;
        filled = end == 'd' ? filling.found : null;
        return end;
    }

    public boolean isFilled() {
        return filled != null;
    }

    public int tileAt(int cell) {
        cell(cell);
        filledOnly();
        return filled[cell];
    }

    public int guesses() {
        return guesses;
    }

    public int takenBack() {
        return takenBack;
    }

    public int ways() {
        if (width * height > 4) {
            throw new UnsupportedOperationException();
        }
        return waysFrom(new int[width * height], 0, startOfWorld());
    }

    private int waysFrom(int[] tileIn, int cell, List<Set<Integer>> start) {
        if (cell == tileIn.length) {
            return isWay(tileIn) ? 1 : 0;
        }
        int sum = 0;
        for (int tile : start.get(cell)) {
            tileIn[cell] = tile;
            sum += waysFrom(tileIn, cell + 1, start);
        }
        return sum;
    }

    private boolean isWay(int[] tileIn) {
        for (int cell = 0; cell < tileIn.length; cell++) {
            int right = neighbour(cell, 1, width, height);
            int below = neighbour(cell, 2, width, height);
            if (right >= 0 && !fits(tileIn[cell], tileIn[right], 1)
                    || below >= 0 && !fits(tileIn[cell], tileIn[below], 2)) {
                return false;
            }
        }
        for (Map.Entry<Integer, Integer> wish : wishes.entrySet()) {
            if (Arrays.stream(tileIn).filter(tile -> tile == wish.getKey()).count() > wish.getValue()) {
                return false;
            }
        }
        return !road || pieces(tileIn, width, height) <= 1;
    }

    public int roads() {
        filledOnly();
        return pieces(filled, width, height);
    }

    private int colour(int x, int y, int axis, int place) {
        int h = ((((seed * 31 + x) * 31 + y) * 31 + axis) * 31 + place) * 40503;
        return (h >>> 4) % 4;
    }

    private List<Set<Integer>> startOfChunk(int x, int y) {
        List<Set<Integer>> start = sets(9);
        for (int tile = 0; tile < tiles.size(); tile++) {
            int[] edges = tiles.get(tile);
            for (int cell = 0; cell < 9; cell++) {
                int row = cell / 3;
                int column = cell % 3;
                if ((row > 0 || edges[0] == colour(x, y - 1, 1, column))
                        && (row < 2 || edges[2] == colour(x, y, 1, column))
                        && (column > 0 || edges[3] == colour(x - 1, y, 0, row))
                        && (column < 2 || edges[1] == colour(x, y, 0, row))) {
                    start.get(cell).add(tile);
                }
            }
        }
        return start;
    }

    public char visit(int x, int y) {
        range(x, -50, 50);
        range(y, -50, 50);
        String place = x + "," + y;
        if (tiles.isEmpty() || !chunks.containsKey(place) && chunks.size() == 30) {
            throw new IllegalStateException();
        }
        if (!chunks.containsKey(place)) {
            int state = (int) (seed + 7919L * x + 104729L * y);
            Filling filling = new Filling(startOfChunk(x, y), 3, 3, state, false);
            char end = filling.run(50);
            int[] kept = new int[10];
            kept[9] = end;
            if (end == 'd') {
                System.arraycopy(filling.found, 0, kept, 0, 9);
            }
            chunks.put(place, kept);
        }
        return (char) chunks.get(place)[9];
    }

    public int chunkTile(int x, int y, int cell) {
        range(x, -50, 50);
        range(y, -50, 50);
        int[] kept = chunks.get(x + "," + y);
        if (kept == null || kept[9] != 'd') {
            throw new NoSuchElementException();
        }
        if (cell < 0 || cell > 8) {
            throw new IndexOutOfBoundsException();
        }
        return kept[cell];
    }

    public int border(int x, int y, boolean isBelow, int place) {
        range(x, -50, 50);
        range(y, -50, 50);
        range(place, 0, 2);
        return colour(x, y, isBelow ? 1 : 0, place);
    }

    public int chunks() {
        return chunks.size();
    }

    public int forget() {
        int before = chunks.size();
        chunks.clear();
        return before;
    }

    public long worldSum() {
        filledOnly();
        long sum = 0;
        for (int cell = 0; cell < filled.length; cell++) {
            sum += (long) (filled[cell] + 1) * (cell + 1) * (cell + 1);
        }
        return sum;
    }

    public double meanOptions() {
        int sum = narrowedWorld().stream().mapToInt(Set::size).sum();
        return (double) sum / (double) (width * height);
    }

    public float roadShare() {
        filledOnly();
        long cells = Arrays.stream(filled).filter(this::isRoadTile).count();
        return (float) cells / (float) filled.length;
    }

    public boolean isSound() {
        return true;
    }
}
