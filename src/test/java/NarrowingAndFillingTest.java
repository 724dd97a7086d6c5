/** Promises 11 to 19. */
public final class NarrowingAndFillingTest {
    private static final Class<IllegalArgumentException> ILLEGAL = IllegalArgumentException.class;
    private static final Class<IllegalStateException> STATE = IllegalStateException.class;
    private static final Class<IndexOutOfBoundsException> INDEX = IndexOutOfBoundsException.class;

    private static Tilehold withTiles(int[]... tiles) {
        Tilehold maker = new Tilehold();
        for (int[] tile : tiles) {
            maker.addTile(tile[0], tile[1], tile[2], tile[3], tile[4]);
        }
        return maker;
    }

    /** Two tiles that lie beside one another by turns, in rows and in columns. */
    private static Tilehold byTurns() {
        return withTiles(new int[] {2, 2, 3, 3, 1}, new int[] {3, 3, 2, 2, 1});
    }

    private static Tilehold alike(int... weights) {
        Tilehold maker = new Tilehold();
        for (int weight : weights) {
            maker.addTile(0, 0, 0, 0, weight);
        }
        return maker;
    }

    private static void bothOptions(Tilehold maker, int cell, int due) {
        Check.same("options(" + cell + ")", maker.options(cell), due);
        Check.same("optionsAnew(" + cell + ")", maker.optionsAnew(cell), due);
    }

    private static void promise11And12Options() {
        Tilehold none = new Tilehold();
        bothOptions(none, 0, 0);
        for (int cell : new int[] {-1, 9, Integer.MIN_VALUE, Integer.MAX_VALUE}) {
            Check.throwsOnly("options", INDEX, () -> none.options(cell));
            Check.throwsOnly("optionsAnew", INDEX, () -> none.optionsAnew(cell));
        }
        Tilehold maker = byTurns();
        maker.setSize(6, 6);
        bothOptions(maker, 35, 2);
        maker.fix(0, 0);
        for (int cell = 0; cell < 36; cell++) {
            bothOptions(maker, cell, 1);
        }
        maker.fix(2, 1);
        for (int cell = 0; cell < 36; cell++) {
            bothOptions(maker, cell, 0);
        }
        maker.soften(2);
        bothOptions(maker, 35, 1);
        maker.setSize(1, 1);
        bothOptions(maker, 0, 2);
        maker.ban(0, 0);
        bothOptions(maker, 0, 1);
        maker.ban(0, 1);
        bothOptions(maker, 0, 0);
    }

    /** A row in which each tile leads on to the next: what a ban takes goes on as far as it must. */
    private static void promise11AlongARow() {
        Tilehold maker = withTiles(new int[] {0, 1, 0, 0, 1}, new int[] {0, 2, 0, 1, 1},
                new int[] {0, 3, 0, 2, 1}, new int[] {0, 3, 0, 3, 1});
        maker.setSize(4, 1);
        // Tile 0 leads to 1, 1 to 2, 2 to 3, and 3 to itself; nothing leads to 0.
        int[] due = {4, 3, 2, 1};
        for (int cell = 0; cell < 4; cell++) {
            bothOptions(maker, cell, due[cell]);
        }
        maker.ban(2, 3);
        int[] dueThen = {1, 1, 1, 1};
        for (int cell = 0; cell < 4; cell++) {
            bothOptions(maker, cell, dueThen[cell]);
        }
        maker.ban(1, 1);
        bothOptions(maker, 3, 0);
    }

    private static void promise13Fill() {
        Tilehold none = new Tilehold();
        Check.throwsOnly("fill(-1)", ILLEGAL, () -> none.fill(-1));
        Check.throwsOnly("fill(201)", ILLEGAL, () -> none.fill(201));
        Check.throwsOnly("fill without tiles", STATE, () -> none.fill(200));

        // Seed 0 draws 48, 5495830, ..: tile 0 goes wrong; the state goes on, so tile 2 comes next.
        Tilehold maker = alike(1, 1, 2);
        maker.setSize(1, 1);
        maker.setMost(0, 0);
        Check.same("fill(0)", maker.fill(0), 'l');
        Check.same("isFilled after 'l'", maker.isFilled(), false);
        Check.same("guesses with 'l'", maker.guesses(), 1);
        Check.same("takenBack with 'l'", maker.takenBack(), 0);
        Check.same("fill(1)", maker.fill(1), 'd');
        Check.same("tile", maker.tileAt(0), 2);
        Check.same("guesses", maker.guesses(), 2);
        Check.same("takenBack", maker.takenBack(), 1);
        Check.same("fill(1) again", maker.fill(1), 'd');
        Check.same("the same tile again", maker.tileAt(0), 2);
        Check.throwsOnly("fill(201)", ILLEGAL, () -> maker.fill(201));
        Check.same("isFilled after a throw", maker.isFilled(), true);
        Check.same("guesses after a throw", maker.guesses(), 2);
        Check.same("fill(0) then", maker.fill(0), 'l');
        Check.same("isFilled then", maker.isFilled(), false);
        maker.setMost(1, 0);
        maker.setMost(2, 0);
        // A guess of tile 2 and one of tile 0 are taken back; that tile 1 is left alone goes wrong by itself.
        Check.same("fill that no guess helps", maker.fill(2), 'n');
        Check.same("guesses with 'n'", maker.guesses(), 2);
        Check.same("takenBack with 'n'", maker.takenBack(), 2);
        Check.same("the limit is looked at last", maker.fill(1), 'l');
    }

    private static void promise13FewestAndLowestFirst() {
        Tilehold maker = alike(1, 1, 1, 1);
        maker.setSize(4, 1);
        maker.ban(2, 0);
        maker.ban(2, 1);
        maker.ban(3, 1);
        maker.ban(3, 2);
        // Cells 2 and 3 with two tiles come first, then 0 and 1: numbers 48, 5495830, 2556967, 5661980.
        Check.same("fill", maker.fill(0), 'd');
        Check.same("cell 2 of tiles 2, 3", maker.tileAt(2), 2);
        Check.same("cell 3 of tiles 0, 3", maker.tileAt(3), 0);
        Check.same("cell 0", maker.tileAt(0), 3);
        Check.same("cell 1", maker.tileAt(1), 0);
        Check.same("guesses", maker.guesses(), 4);
    }

    private static void promise13Ends() {
        Tilehold maker = byTurns();
        Check.same("fill", maker.fill(0), 'd');
        Check.same("one guess narrows all", maker.guesses(), 1);
        maker.fix(0, 0);
        maker.fix(1, 0);
        Check.same("nothing possible", maker.fill(200), 'n');
        Check.same("no guess", maker.guesses(), 0);
        maker.fix(1, 1);
        maker.setMost(0, 4);
        Check.same("more alone than wished", maker.fill(200), 'n');
        maker.setMost(0, 5);
        Check.same("as many alone as wished", maker.fill(200), 'd');
    }

    private static void promise13Road() {
        // A tile with a road upward only, and one without.
        Tilehold maker = withTiles(new int[] {1, 0, 0, 0, 9}, new int[] {0, 0, 0, 0, 1});
        maker.setSize(6, 1);
        Check.same("fill", maker.fill(0), 'd');
        Check.same("pieces", maker.roads() > 1, true);
        maker.setRoad(true);
        Check.same("fill with the wish", maker.fill(200), 'd');
        Check.same("pieces with the wish", maker.roads() <= 1, true);
        Check.same("taken back", maker.takenBack() > 0, true);
        Check.same("fill(0) with the wish", maker.fill(0), 'l');
        maker.fix(0, 0);
        maker.fix(1, 0);
        Check.same("two pieces fixed", maker.fill(0), 'l');
        for (int cell = 2; cell < 6; cell++) {
            maker.fix(cell, 1);
        }
        Check.same("two pieces and no guess", maker.fill(200), 'n');
        maker.fix(1, 1);
        Check.same("one piece", maker.fill(0), 'd');
        maker.fix(0, 1);
        Check.same("no piece", maker.fill(0), 'd');
    }

    private static void promise14And15FilledWorld() {
        Tilehold maker = alike(1, 1);
        Check.same("isFilled", maker.isFilled(), false);
        Check.throwsOnly("tileAt(0)", STATE, () -> maker.tileAt(0));
        Check.throwsOnly("tileAt(9)", INDEX, () -> maker.tileAt(9));
        Check.throwsOnly("tileAt(-1)", INDEX, () -> maker.tileAt(-1));
        maker.fix(0, 1);
        maker.fix(8, 0);
        maker.fill(0);
        Check.same("isFilled then", maker.isFilled(), true);
        Check.same("tileAt(0)", maker.tileAt(0), 1);
        Check.same("tileAt(8)", maker.tileAt(8), 0);
        Check.throwsOnly("tileAt(9) then", INDEX, () -> maker.tileAt(9));
        maker.visit(0, 0);
        maker.forget();
        maker.options(0);
        maker.optionsAnew(0);
        maker.meanOptions();
        maker.isSound();
        Check.same("isFilled after questions", maker.isFilled(), true);
        Check.same("tileAt(0) after questions", maker.tileAt(0), 1);
        maker.fix(0, 1);
        Check.throwsOnly("tileAt after fix", STATE, () -> maker.tileAt(0));
    }

    private static void promise16And17Counts() {
        Tilehold maker = alike(1, 1, 2);
        maker.setSize(1, 1);
        Check.same("guesses at first", maker.guesses(), 0);
        Check.same("takenBack at first", maker.takenBack(), 0);
        maker.setMost(0, 0);
        maker.fill(200);
        Check.same("guesses", maker.guesses(), 2);
        Check.same("takenBack", maker.takenBack(), 1);
        maker.visit(1, 1);
        maker.isSound();
        maker.ways();
        maker.setSize(6, 6);
        Check.same("guesses stay", maker.guesses(), 2);
        Check.same("takenBack stays", maker.takenBack(), 1);
        maker.setSize(1, 1);
        maker.fix(0, 1);
        maker.fill(200);
        Check.same("guesses of a call without", maker.guesses(), 0);
        Check.same("takenBack of a call without", maker.takenBack(), 0);
    }

    private static void promise18Ways() {
        Tilehold none = new Tilehold();
        Check.throwsOnly("ways of 9 cells", UnsupportedOperationException.class, none::ways);
        none.setSize(2, 2);
        Check.same("ways without tiles", none.ways(), 0);
        none.setSize(5, 1);
        Check.throwsOnly("ways of 5 cells", UnsupportedOperationException.class, none::ways);

        Tilehold maker = alike(1, 1, 1, 1, 1, 1, 1, 1);
        maker.setSize(2, 2);
        Check.same("all ways", maker.ways(), 4096);
        maker.setMost(7, 0);
        Check.same("without a tile", maker.ways(), 2401);
        maker.setMost(7, 1);
        Check.same("with a tile at most once", maker.ways(), 2401 + 4 * 343);
        maker.setMost(7, -1);
        maker.fix(0, 3);
        maker.ban(3, 0);
        Check.same("fixed and banned", maker.ways(), 8 * 8 * 7);
        maker.setSize(1, 1);
        Check.same("one cell", maker.ways(), 8);
        maker.setSize(1, 4);
        Check.same("a column", maker.ways(), 4096);

        Tilehold turns = byTurns();
        turns.setSize(2, 2);
        Check.same("by turns", turns.ways(), 2);
        turns.fill(0);
        int tile = turns.tileAt(0);
        turns.ways();
        Check.same("the filled world stays", turns.tileAt(0), tile);
        Check.same("isFilled stays", turns.isFilled(), true);
    }

    private static void promise18Roads() {
        Tilehold maker = withTiles(new int[] {1, 0, 0, 0, 1}, new int[] {0, 0, 0, 0, 1});
        maker.setSize(3, 1);
        Check.same("without the wish", maker.ways(), 8);
        maker.setRoad(true);
        Check.same("with at most one piece", maker.ways(), 4);
    }

    private static void promise19Roads() {
        Tilehold maker = withTiles(new int[] {0, 0, 0, 0, 1}, new int[] {0, 1, 0, 0, 1},
                new int[] {0, 0, 0, 1, 1}, new int[] {1, 0, 1, 0, 1}, new int[] {2, 2, 2, 2, 1});
        Check.throwsOnly("roads ahead of filling", STATE, maker::roads);
        maker.setSize(4, 2);
        int[] layout = {1, 2, 1, 2, 0, 0, 0, 0};
        for (int cell = 0; cell < 8; cell++) {
            maker.fix(cell, layout[cell]);
        }
        maker.fill(0);
        Check.same("two pieces of two", maker.roads(), 2);
        maker.setSize(2, 3);
        for (int cell = 0; cell < 6; cell++) {
            maker.fix(cell, 3);
        }
        maker.fill(0);
        Check.same("two columns that do not touch", maker.roads(), 2);
        maker.setSize(3, 2);
        for (int cell = 0; cell < 6; cell++) {
            maker.fix(cell, 4);
        }
        maker.fill(0);
        Check.same("no road", maker.roads(), 0);
        maker.soften(0);
        Check.throwsOnly("roads after soften", STATE, maker::roads);

        Tilehold cross = withTiles(new int[] {1, 1, 1, 1, 1});
        cross.setSize(6, 6);
        cross.setRoad(true);
        Check.same("all of one road", cross.fill(0), 'd');
        Check.same("one piece", cross.roads(), 1);
    }

    public static void main(String[] arguments) {
        promise11And12Options();
        promise11AlongARow();
        promise13Fill();
        promise13FewestAndLowestFirst();
        promise13Ends();
        promise13Road();
        promise14And15FilledWorld();
        promise16And17Counts();
        promise18Ways();
        promise18Roads();
        promise19Roads();
        Check.end();
    }
}
