/** Promises 25 to 28. */
public final class FiguresTest {
    private static final Class<IllegalStateException> STATE = IllegalStateException.class;

    private static Tilehold alike(int number) {
        Tilehold maker = new Tilehold();
        for (int tile = 0; tile < number; tile++) {
            maker.addTile(0, 0, 0, 0, 1 + tile);
        }
        return maker;
    }

    private static void promise25WorldSum() {
        Tilehold maker = alike(8);
        Check.throwsOnly("worldSum ahead of filling", STATE, maker::worldSum);
        maker.setSize(2, 2);
        for (int cell = 0; cell < 4; cell++) {
            maker.fix(cell, cell);
        }
        maker.fill(0);
        Check.same("worldSum", maker.worldSum(), 1 + 2 * 4 + 3 * 9 + 4 * 16);
        maker.setSize(6, 6);
        for (int cell = 0; cell < 36; cell++) {
            maker.fix(cell, 7);
        }
        maker.fill(0);
        Check.same("the greatest worldSum", maker.worldSum(), 8 * 16206);
        maker.ban(0, 0);
        Check.throwsOnly("worldSum after ban", STATE, maker::worldSum);
        maker.fix(0, 0);
        maker.fill(0);
        Check.throwsOnly("worldSum after a filling in vain", STATE, maker::worldSum);
    }

    private static void promise26MeanOptions() {
        Check.same("meanOptions without tiles", new Tilehold().meanOptions(), 0.0);
        Tilehold maker = alike(3);
        Check.same("meanOptions", maker.meanOptions(), 3.0);
        maker.ban(4, 1);
        Check.same("meanOptions of 26 over 9", maker.meanOptions(), 26.0 / 9.0);
        maker.setSize(2, 1);
        maker.ban(0, 1);
        Check.same("meanOptions of 5 over 2", maker.meanOptions(), 2.5);
        maker.ban(0, 0);
        maker.ban(0, 2);
        Check.same("meanOptions when nothing is possible", maker.meanOptions(), 0.0);
        maker.setSize(6, 5);
        maker.setMost(0, 0);
        Check.same("wishes do not count", maker.meanOptions(), 3.0);
    }

    private static void promise27RoadShare() {
        Tilehold maker = new Tilehold();
        maker.addTile(0, 0, 0, 0, 1);
        maker.addTile(1, 0, 0, 0, 1);
        maker.addTile(0, 0, 1, 0, 1);
        Check.throwsOnly("roadShare ahead of filling", STATE, maker::roadShare);
        maker.setSize(3, 1);
        maker.fix(0, 1);
        maker.fix(1, 0);
        maker.fix(2, 0);
        maker.fill(0);
        Check.same("roadShare of 1 over 3", maker.roadShare(), 1.0f / 3.0f);
        maker.fix(1, 2);
        maker.fill(0);
        Check.same("roadShare of 2 over 3", maker.roadShare(), 2.0f / 3.0f);
        maker.fix(0, 0);
        maker.fix(1, 0);
        maker.fill(0);
        Check.same("roadShare without a road", maker.roadShare(), 0.0f);
        maker.setSeed(0);
        Check.throwsOnly("roadShare after setSeed", STATE, maker::roadShare);

        // Any edge alone makes a tile one with a road.
        int[][] single = {{1, 0, 0, 0}, {0, 1, 0, 0}, {0, 0, 1, 0}, {0, 0, 0, 1}};
        for (int[] edges : single) {
            Tilehold one = new Tilehold();
            one.addTile(edges[0], edges[1], edges[2], edges[3], 1);
            one.setSize(1, 1);
            one.fill(0);
            Check.same("roadShare of one tile", one.roadShare(), 1.0f);
            Check.same("roads of one tile", one.roads(), 1);
        }
    }

    private static void promise28IsSound() {
        Tilehold maker = new Tilehold();
        Check.same("isSound without tiles", maker.isSound(), true);
        maker.addTile(0, 1, 2, 3, 4);
        maker.addTile(2, 3, 0, 1, 4);
        maker.addTile(3, 3, 3, 3, 4);
        maker.addTile(1, 1, 1, 1, 4);
        Check.same("isSound with tiles", maker.isSound(), true);
        for (int seed = 0; seed < 8; seed++) {
            maker.setSeed(seed * 12345);
            for (int x = -2; x <= 2; x++) {
                for (int y = -2; y <= 2; y++) {
                    maker.visit(x, y);
                }
            }
            maker.fill(200);
            boolean isFilled = maker.isFilled();
            int guesses = maker.guesses();
            Check.same("isSound with chunks", maker.isSound(), true);
            Check.same("chunks after isSound", maker.chunks(), 25);
            Check.same("isFilled after isSound", maker.isFilled(), isFilled);
            Check.same("guesses after isSound", maker.guesses(), guesses);
        }
        maker.setMost(3, 1);
        maker.setRoad(true);
        maker.setSize(6, 6);
        maker.fill(200);
        Check.same("isSound with wishes", maker.isSound(), true);
        maker.fix(0, 0);
        maker.fix(1, 0);
        Check.same("isSound when nothing is possible", maker.isSound(), true);
    }

    public static void main(String[] arguments) {
        promise25WorldSum();
        promise26MeanOptions();
        promise27RoadShare();
        promise28IsSound();
        Check.end();
    }
}
