/** The boundary cases of "Sheet" and "Folding and shifting", promises 1 to 7; what is refused is in RefusedEdgesTest. */
public final class SheetEdgesTest {
    // No two pressures are alike, none lies in the middle of two others that a fold pairs, and 0 and 99 are there.
    private static final int[][] DISTINCT = {
        {0, 3, 8, 15, 24},
        {35, 48, 63, 80, 99},
        {1, 5, 11, 19, 29},
        {41, 55, 71, 89, 2},
        {97, 76, 57, 40, 25}};

    public static void main(String[] args) {
        newObject();
        everyCell();
        pressures();
        totals();
        foldsOfRows();
        foldsOfColumns();
        foldsRound();
        foldsCount();
        shiftsOfOneCell();
        shiftsOfAll();
        shiftsCount();
        Checks.finish("SheetEdgesTest");
    }

    /** "Creates a sheet with a pressure of 50 in all cells, threshold 20, calm weather, day 0, and all weights 1." */
    private static void newObject() {
        StringBuilder want = new StringBuilder();
        for (int cell = 0; cell < 25; cell++) {
            want.append("50 ");
        }
        want.append("threshold 20 weights 1111111111111111 weather 0 day 0 scored 0 errors 0 ");
        want.append(Edges.NO_MEAN).append(' ').append(Edges.NO_MEAN).append('\n');
        PaperStorm storm = new PaperStorm();
        Checks.due("1 all", Edges.now(storm), want.toString());
        Checks.due("1 the line is empty", Edges.line(storm), "");
        Checks.due("1 the buffer is empty", storm.type('x'), 1);
        Checks.refused("1 nothing to undo", Edges.STATE, () -> storm.undo());
        Checks.refused("1 no snapshot", Edges.STATE, () -> storm.restore());
        Checks.due("1 no errors", Edges.errors(Edges::fresh),
                "error position " + Edges.NOTHING + " failed command " + Edges.NOTHING + "\n");
        String busy = Edges.now(Edges.busy());
        PaperStorm other = Edges.busy();
        new PaperStorm().setPressure(0, 0, 98);
        Checks.due("1 objects do not share their states", Edges.now(other), busy);
    }

    /** "The sheet has the rows 0 to 4 and the columns 0 to 4." */
    private static void everyCell() {
        for (int cell = 0; cell < 25; cell++) {
            PaperStorm storm = new PaperStorm();
            Checks.due("2 cell " + cell, storm.setPressure(cell / 5, cell % 5, 7), 50);
            for (int other = 0; other < 25; other++) {
                Checks.due("3 cell " + other, storm.pressureAt(other / 5, other % 5), other == cell ? 7 : 50);
            }
            Checks.due("4 cell " + cell, storm.totalPressure(), 24 * 50 + 7);
        }
    }

    /** "Each cell has a pressure from 0 to 99." */
    private static void pressures() {
        for (int corner : new int[] {0, 4, 12, 20, 24}) {
            PaperStorm storm = new PaperStorm();
            int previous = 50;
            for (int pressure : new int[] {0, 99, 1, 98, 98, 0, 0, 99}) {
                Checks.due("2 previous", storm.setPressure(corner / 5, corner % 5, pressure), previous);
                Checks.due("3 pressure", storm.pressureAt(corner / 5, corner % 5), pressure);
                previous = pressure;
            }
            Checks.due("2 the same pressure is set successfully too", storm.undo(), 7);
        }
    }

    private static PaperStorm filled(int pressure) {
        PaperStorm storm = new PaperStorm();
        for (int cell = 0; cell < 25; cell++) {
            storm.setPressure(cell / 5, cell % 5, pressure);
        }
        return storm;
    }

    private static void totals() {
        Checks.due("4 the least sum", filled(0).totalPressure(), 0);
        Checks.due("4 the greatest sum", filled(99).totalPressure(), 2475);
        PaperStorm storm = filled(0);
        for (int cell = 0; cell < 25; cell++) {
            storm.setPressure(cell / 5, cell % 5, cell);
            Checks.due("4 each cell counts", storm.totalPressure(), cell * (cell + 1) / 2);
        }
    }

    private static int[][] copy(int[][] sheet) {
        int[][] copy = new int[5][];
        for (int row = 0; row < 5; row++) {
            copy[row] = sheet[row].clone();
        }
        return copy;
    }

    private static PaperStorm distinct() {
        PaperStorm storm = new PaperStorm();
        Checks.fill(storm, DISTINCT);
        return storm;
    }

    /** "are paired, if both exist", "rounded up" above and "rounded down" below, "the fold itself stay[s]". */
    private static void foldsOfRows() {
        int[][] want = copy(DISTINCT);
        want[0] = new int[] {1, 4, 10, 17, 27};
        want[2] = new int[] {0, 4, 9, 17, 26};
        dueFold("row", 1, want, 10);
        want = copy(DISTINCT);
        want[0] = new int[] {49, 40, 33, 28, 25};
        want[1] = new int[] {38, 52, 67, 85, 51};
        want[3] = new int[] {38, 51, 67, 84, 50};
        want[4] = new int[] {48, 39, 32, 27, 24};
        dueFold("row", 2, want, 20);
        want = copy(DISTINCT);
        want[2] = new int[] {49, 41, 34, 30, 27};
        want[4] = new int[] {49, 40, 34, 29, 27};
        dueFold("row", 3, want, 10);
    }

    private static void foldsOfColumns() {
        dueFold("column", 1, new int[][] {
            {4, 3, 4, 15, 24},
            {49, 48, 49, 80, 99},
            {6, 5, 6, 19, 29},
            {56, 55, 56, 89, 2},
            {77, 76, 77, 40, 25}}, 10);
        dueFold("column", 2, new int[][] {
            {12, 9, 8, 9, 12},
            {67, 64, 63, 64, 67},
            {15, 12, 11, 12, 15},
            {22, 72, 71, 72, 21},
            {61, 58, 57, 58, 61}}, 20);
        dueFold("column", 3, new int[][] {
            {0, 3, 16, 15, 16},
            {35, 48, 81, 80, 81},
            {1, 5, 20, 19, 20},
            {41, 55, 37, 89, 36},
            {97, 76, 41, 40, 41}}, 10);
    }

    private static void dueFold(String along, int place, int[][] want, int changed) {
        PaperStorm storm = distinct();
        boolean isRow = along.equals("row");
        String what = (isRow ? "5 fold along row " : "6 fold along column ") + place;
        Checks.due(what, isRow ? storm.foldRow(place) : storm.foldColumn(place), changed);
        Checks.dueSheet(what, storm, want);
        Checks.due(what + ": the sum stays", storm.totalPressure(), distinct().totalPressure());
        storm.undo();
        Checks.dueSheet(what + " undone", storm, DISTINCT);
    }

    /** Halves of even and odd sums, up to the least and the greatest one. */
    private static void foldsRound() {
        int[][] pairs = {
            {0, 0, 0, 0}, {0, 1, 1, 0}, {1, 0, 1, 0}, {1, 1, 1, 1}, {0, 99, 50, 49}, {99, 0, 50, 49}, {98, 99, 99, 98},
            {99, 98, 99, 98}, {99, 99, 99, 99}, {0, 2, 1, 1}, {2, 0, 1, 1}, {97, 99, 98, 98}, {0, 98, 49, 49}};
        for (int[] pair : pairs) {
            int changed = (pair[0] == pair[2] ? 0 : 1) + (pair[1] == pair[3] ? 0 : 1);
            for (int fold = 1; fold <= 3; fold++) {
                for (int distance = 1; fold - distance >= 0 && fold + distance < 5; distance++) {
                    for (int line = 0; line < 5; line += 2) {
                        dueHalves(pair, changed, fold, distance, line);
                    }
                }
            }
        }
    }

    private static void dueHalves(int[] pair, int changed, int fold, int distance, int line) {
        String what = pair[0] + " and " + pair[1] + " at distance " + distance + " of " + fold;
        PaperStorm rows = new PaperStorm();
        rows.setPressure(fold - distance, line, pair[0]);
        rows.setPressure(fold + distance, line, pair[1]);
        Checks.due("5 " + what, rows.foldRow(fold), changed);
        Checks.due("5 above, rounded up: " + what, rows.pressureAt(fold - distance, line), pair[2]);
        Checks.due("5 below, rounded down: " + what, rows.pressureAt(fold + distance, line), pair[3]);
        PaperStorm columns = new PaperStorm();
        columns.setPressure(line, fold - distance, pair[0]);
        columns.setPressure(line, fold + distance, pair[1]);
        Checks.due("6 " + what, columns.foldColumn(fold), changed);
        Checks.due("6 left, rounded up: " + what, columns.pressureAt(line, fold - distance), pair[2]);
        Checks.due("6 right, rounded down: " + what, columns.pressureAt(line, fold + distance), pair[3]);
    }

    /** "the number of cells whose pressure is different afterwards", from none to all that a fold can reach. */
    private static void foldsCount() {
        PaperStorm storm = new PaperStorm();
        for (int fold = 1; fold <= 3; fold++) {
            Checks.due("5 nothing differs", storm.foldRow(fold), 0);
            Checks.due("6 nothing differs", storm.foldColumn(fold), 0);
        }
        Checks.due("5, 6 a fold that changes nothing is successful too", storm.undo(), 5);
        storm.setPressure(0, 0, 53);
        Checks.due("5 two differ", storm.foldRow(2), 2);
        Checks.due("5 the half above is 1 more already", storm.foldRow(2), 0);
        Checks.due("6 two in each of the two rows", storm.foldColumn(2), 2);
        Checks.due("6 the left half is 1 more already", storm.foldColumn(2), 0);
        PaperStorm unpaired = new PaperStorm();
        unpaired.setPressure(1, 1, 9);
        unpaired.setPressure(3, 3, 99);
        Checks.due("5 the fold and what has no partner do not count", unpaired.foldRow(1), 0);
        Checks.due("6 the fold and what has no partner do not count", unpaired.foldColumn(1), 0);
        Checks.due("5 the fold and what has no partner do not count", unpaired.foldRow(3), 0);
        Checks.due("6 the fold and what has no partner do not count", unpaired.foldColumn(3), 0);
    }

    /** "a pressure that leaves the sheet enters it on the opposite side" */
    private static void shiftsOfOneCell() {
        int[] down = {-1, 0, 1, 0};
        int[] right = {0, 1, 0, -1};
        for (int direction = 0; direction < 4; direction++) {
            for (int cell = 0; cell < 25; cell++) {
                PaperStorm storm = new PaperStorm();
                storm.setPressure(cell / 5, cell % 5, 8);
                char sign = "nesw".charAt(direction);
                Checks.due("7 two differ " + sign, storm.shift(sign), 2);
                int row = (cell / 5 + down[direction] + 5) % 5;
                int column = (cell % 5 + right[direction] + 5) % 5;
                Checks.due("7 " + sign + " of cell " + cell, storm.pressureAt(row, column), 8);
                Checks.due("7 the sum stays", storm.totalPressure(), 24 * 50 + 8);
            }
        }
    }

    private static void shiftsOfAll() {
        for (char direction : "nesw".toCharArray()) {
            PaperStorm storm = distinct();
            for (int time = 1; time <= 5; time++) {
                Checks.due("7 all differ " + direction, storm.shift(direction), 25);
                Checks.due("7 back after 5 times only", storm.pressureAt(0, 0) == 0, time == 5);
            }
            Checks.dueSheet("7 five times " + direction, storm, DISTINCT);
        }
        PaperStorm storm = distinct();
        storm.shift('n');
        Checks.dueSheet("7 n goes up", storm, new int[][] {DISTINCT[1], DISTINCT[2], DISTINCT[3], DISTINCT[4], DISTINCT[0]});
        storm.shift('s');
        storm.shift('s');
        Checks.dueSheet("7 s goes down", storm, new int[][] {DISTINCT[4], DISTINCT[0], DISTINCT[1], DISTINCT[2], DISTINCT[3]});
        storm.shift('n');
        storm.shift('e');
        Checks.dueSheet("7 e goes right", storm, new int[][] {
            {24, 0, 3, 8, 15}, {99, 35, 48, 63, 80}, {29, 1, 5, 11, 19}, {2, 41, 55, 71, 89}, {25, 97, 76, 57, 40}});
        storm.shift('w');
        storm.shift('w');
        Checks.dueSheet("7 w goes left", storm, new int[][] {
            {3, 8, 15, 24, 0}, {48, 63, 80, 99, 35}, {5, 11, 19, 29, 1}, {55, 71, 89, 2, 41}, {76, 57, 40, 25, 97}});
    }

    private static void shiftsCount() {
        for (char direction : "nesw".toCharArray()) {
            PaperStorm storm = new PaperStorm();
            Checks.due("7 nothing differs " + direction, storm.shift(direction), 0);
            Checks.due("7 that is successful too " + direction, storm.undo(), 0);
            for (int place = 0; place < 5; place++) {
                storm.setPressure(3, place, 9);
            }
            boolean alongTheRow = direction == 'e' || direction == 'w';
            Checks.due("7 a row of one pressure " + direction, storm.shift(direction), alongTheRow ? 0 : 10);
        }
    }
}
