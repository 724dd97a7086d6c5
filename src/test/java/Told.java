import java.util.ArrayList;
import java.util.List;

/** All that can be told of an object: first by questions, then by calls that answer what was there before. */
final class Told {
    private final Tilehold maker;
    private final Past past;
    private final List<String> lines = new ArrayList<>();

    Told(Tilehold maker, Past past) {
        this.maker = maker;
        this.past = past;
    }

    private interface Question {
        Object ask();
    }

    private void tell(String what, Question question) {
        try {
            lines.add(what + " " + question.ask());
        } catch (RuntimeException e) {
            lines.add(what + " throws " + e.getClass().getName());
        }
    }

    String[] all() {
        tellFigures();
        tellCells();
        tellChunks();
        tellTiles();
        tellFilling();
        tellWhatWasSet();
        tellWeights();
        tellWhatIsNotThere();
        return lines.toArray(new String[0]);
    }

    /** What would be refused is not asked here: what a refused call spoils would be spoilt in each object alike. */
    private void tellFigures() {
        tell("isFilled", maker::isFilled);
        tell("guesses", maker::guesses);
        tell("takenBack", maker::takenBack);
        tell("chunks", maker::chunks);
        tell("meanOptions", maker::meanOptions);
        tell("isSound", maker::isSound);
        if (past.cells <= 4) {
            tell("ways", maker::ways);
        }
        if (past.isFilled()) {
            tell("roads", maker::roads);
            tell("worldSum", maker::worldSum);
            tell("roadShare", maker::roadShare);
        }
    }

    private void tellCells() {
        for (int number = 0; number < past.cells; number++) {
            int cell = number;
            tell("options", () -> maker.options(cell));
            tell("optionsAnew", () -> maker.optionsAnew(cell));
            if (past.isFilled()) {
                tell("tileAt", () -> maker.tileAt(cell));
            }
        }
    }

    private void tellChunks() {
        for (int[] place : past.places()) {
            char end = maker.visit(place[0], place[1]);
            lines.add("visit " + end);
            for (int number = 0; number < 9 && end == 'd'; number++) {
                int cell = number;
                tell("chunkTile", () -> maker.chunkTile(place[0], place[1], cell));
            }
        }
        tell("chunks", maker::chunks);
        for (int number = 0; number < 3; number++) {
            int place = number;
            tell("border", () -> maker.border(0, 0, false, place));
            tell("border below", () -> maker.border(0, 0, true, place));
        }
    }

    private void tellTiles() {
        for (int number = 0; number < past.tiles; number++) {
            int tile = number;
            for (int direction = 0; direction < 4; direction++) {
                int way = direction;
                tell("areFitting", () -> maker.areFitting(tile, 0, way));
            }
        }
    }

    private void tellFilling() {
        if (past.tiles > 0) {
            tell("fill", () -> maker.fill(200));
            tell("guesses", maker::guesses);
            tell("takenBack", maker::takenBack);
        }
    }

    private void tellWhatWasSet() {
        for (int number = 0; number < past.tiles; number++) {
            int tile = number;
            tell("setMost", () -> maker.setMost(tile, -1));
        }
        tell("setRoad", () -> maker.setRoad(false));
        tell("setSeed", () -> maker.setSeed(0));
        for (int number = 0; number < past.cells; number++) {
            int cell = number;
            if (past.tiles > 0) {
                tell("fix", () -> maker.fix(cell, 0));
            }
            tell("soften", () -> maker.soften(cell));
        }
    }

    /** Draws from all tiles tell their weights. */
    private void tellWeights() {
        tell("setSize", () -> maker.setSize(1, 1));
        for (int number = 0; number < 8 && past.tiles > 0; number++) {
            int seed = number;
            tell("setSeed", () -> maker.setSeed(seed));
            tell("fill", () -> maker.fill(0));
            tell("tileAt", () -> maker.tileAt(0));
        }
    }

    private void tellWhatIsNotThere() {
        tell("one more tile", () -> maker.areFitting(0, past.tiles, 0));
        tell("addTile", () -> maker.addTile(0, 0, 0, 0, 1));
    }
}
