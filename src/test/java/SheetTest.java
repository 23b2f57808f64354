/** Promises 1 to 7: a new object and the sheet. */
public final class SheetTest {
    private static final Class<IndexOutOfBoundsException> OUTSIDE = IndexOutOfBoundsException.class;
    private static final Class<IllegalArgumentException> ILLEGAL = IllegalArgumentException.class;
    private static final int[][] MIXED = {
        {0, 1, 2, 3, 4},
        {10, 21, 32, 43, 54},
        {99, 98, 97, 96, 95},
        {7, 7, 7, 7, 7},
        {60, 51, 42, 33, 24}};

    public static void main(String[] args) {
        newObject();
        setPressure();
        pressureAt();
        totalPressure();
        foldRow();
        foldColumn();
        shift();
        Checks.finish("SheetTest");
    }

    private static void newObject() {
        PaperStorm storm = new PaperStorm();
        for (int row = 0; row < 5; row++) {
            for (int column = 0; column < 5; column++) {
                Checks.due("1 pressure", storm.pressureAt(row, column), 50);
            }
        }
        for (int change = 0; change < 16; change++) {
            Checks.due("1 weight", storm.weightOf(change / 4, change % 4), 1);
        }
        Checks.due("1 threshold", storm.threshold(), 20);
        Checks.due("1 weather", storm.weather(), 0);
        Checks.due("1 day", storm.day(), 0);
        Checks.due("1 forecasts", storm.forecastCount(), 0);
        Checks.due("1 scored", storm.scoredCount(), 0);
        Checks.due("1 errors", storm.totalError(), 0);
        Checks.refused("1 undo", IllegalStateException.class, () -> storm.undo());
        Checks.refused("1 restore", IllegalStateException.class, () -> storm.restore());
        storm.setPressure(0, 0, 3);
        Checks.due("1 another object is its own", new PaperStorm().pressureAt(0, 0), 50);
    }

    private static void setPressure() {
        PaperStorm storm = new PaperStorm();
        Checks.due("2 first", storm.setPressure(1, 3, 99), 50);
        Checks.due("2 again", storm.setPressure(1, 3, 0), 99);
        Checks.due("2 the same", storm.setPressure(1, 3, 0), 0);
        Checks.due("2 the other cells stay", storm.totalPressure(), 1200);
        Checks.due("2 each call is a modification", storm.undo(), 2);
        int[][] outside = {{-1, 0}, {5, 0}, {0, -1}, {0, 5}, {Integer.MAX_VALUE, 0}, {0, Integer.MIN_VALUE}};
        for (int[] cell : outside) {
            Checks.refused("2 cell", OUTSIDE, () -> storm.setPressure(cell[0], cell[1], 5));
            Checks.refused("2 cell first", OUTSIDE, () -> storm.setPressure(cell[0], cell[1], 100));
        }
        for (int pressure : new int[] {-1, 100, Integer.MAX_VALUE, Integer.MIN_VALUE}) {
            Checks.refused("2 pressure", ILLEGAL, () -> storm.setPressure(4, 4, pressure));
        }
        Checks.due("2 a refused call changes nothing", storm.pressureAt(4, 4), 50);
        Checks.due("2 a refused call is no modification", storm.undo(), 1);
    }

    private static void pressureAt() {
        PaperStorm storm = new PaperStorm();
        Checks.fill(storm, MIXED);
        Checks.dueSheet("3", storm, MIXED);
        int[][] outside = {{-1, 0}, {5, 0}, {0, -1}, {0, 5}, {Integer.MIN_VALUE, 4}, {4, Integer.MAX_VALUE}};
        for (int[] cell : outside) {
            Checks.refused("3 cell", OUTSIDE, () -> storm.pressureAt(cell[0], cell[1]));
        }
    }

    private static void totalPressure() {
        PaperStorm storm = new PaperStorm();
        Checks.due("4 new", storm.totalPressure(), 1250);
        Checks.fill(storm, MIXED);
        Checks.due("4 mixed", storm.totalPressure(), 10 + 160 + 485 + 35 + 210);
        Checks.fill(storm, new int[5][5]);
        Checks.due("4 empty", storm.totalPressure(), 0);
    }

    private static void foldRow() {
        PaperStorm storm = new PaperStorm();
        Checks.due("5 nothing changes", storm.foldRow(2), 0);
        Checks.fill(storm, MIXED);
        Checks.due("5 middle", storm.foldRow(2), 20);
        Checks.dueSheet("5 middle", storm, new int[][] {
            {30, 26, 22, 18, 14},
            {9, 14, 20, 25, 31},
            {99, 98, 97, 96, 95},
            {8, 14, 19, 25, 30},
            {30, 26, 22, 18, 14}});
        Checks.fill(storm, MIXED);
        Checks.due("5 upper", storm.foldRow(1), 10);
        Checks.dueSheet("5 upper", storm, new int[][] {
            {50, 50, 50, 50, 50},
            {10, 21, 32, 43, 54},
            {49, 49, 49, 49, 49},
            {7, 7, 7, 7, 7},
            {60, 51, 42, 33, 24}});
        Checks.fill(storm, MIXED);
        Checks.due("5 lower", storm.foldRow(3), 10);
        Checks.due("5 lower, above", storm.pressureAt(2, 1), 75);
        Checks.due("5 lower, below", storm.pressureAt(4, 1), 74);
        Checks.due("5 lower, unpaired", storm.pressureAt(1, 1), 21);
        Checks.due("5 each call is a modification", storm.undo(), 7);
        Checks.dueSheet("5 undone", storm, MIXED);
        for (int row : new int[] {0, 4, -1, 5, Integer.MAX_VALUE, Integer.MIN_VALUE}) {
            Checks.refused("5 row", OUTSIDE, () -> storm.foldRow(row));
        }
        Checks.dueSheet("5 a refused call changes nothing", storm, MIXED);
    }

    private static void foldColumn() {
        PaperStorm storm = new PaperStorm();
        Checks.due("6 nothing changes", storm.foldColumn(1), 0);
        Checks.fill(storm, MIXED);
        Checks.due("6 middle", storm.foldColumn(2), 16);
        Checks.dueSheet("6 middle", storm, new int[][] {
            {2, 2, 2, 2, 2},
            {32, 32, 32, 32, 32},
            {97, 97, 97, 97, 97},
            {7, 7, 7, 7, 7},
            {42, 42, 42, 42, 42}});
        storm.setPressure(0, 0, 5);
        storm.setPressure(0, 4, 0);
        storm.setPressure(0, 3, 9);
        Checks.due("6 rounding", storm.foldColumn(2), 4);
        Checks.due("6 the left one is rounded up", storm.pressureAt(0, 0), 3);
        Checks.due("6 the right one is rounded down", storm.pressureAt(0, 4), 2);
        Checks.due("6 the left one at distance 1", storm.pressureAt(0, 1), 6);
        Checks.due("6 the right one at distance 1", storm.pressureAt(0, 3), 5);
        Checks.fill(storm, MIXED);
        storm.foldColumn(1);
        Checks.due("6 left, rounded up", storm.pressureAt(2, 0), 98);
        Checks.due("6 left, the fold stays", storm.pressureAt(2, 1), 98);
        Checks.due("6 left, rounded down", storm.pressureAt(2, 2), 98);
        Checks.due("6 left, unpaired", storm.pressureAt(2, 4), 95);
        Checks.fill(storm, MIXED);
        storm.foldColumn(3);
        Checks.due("6 right, rounded up", storm.pressureAt(4, 2), 33);
        Checks.due("6 right, the fold stays", storm.pressureAt(4, 3), 33);
        Checks.due("6 right, rounded down", storm.pressureAt(4, 4), 33);
        Checks.due("6 right, unpaired", storm.pressureAt(4, 1), 51);
        Checks.due("6 each call is a modification", storm.undo(), 7);
        Checks.dueSheet("6 undone", storm, MIXED);
        for (int column : new int[] {0, 4, -1, 5, Integer.MAX_VALUE, Integer.MIN_VALUE}) {
            Checks.refused("6 column", OUTSIDE, () -> storm.foldColumn(column));
        }
        Checks.dueSheet("6 a refused call changes nothing", storm, MIXED);
    }

    private static void shift() {
        PaperStorm storm = new PaperStorm();
        Checks.due("7 nothing changes", storm.shift('n'), 0);
        Checks.fill(storm, MIXED);
        Checks.due("7 n", storm.shift('n'), 25);
        Checks.dueSheet("7 n", storm, new int[][] {MIXED[1], MIXED[2], MIXED[3], MIXED[4], MIXED[0]});
        Checks.due("7 s", storm.shift('s'), 25);
        Checks.dueSheet("7 s after n", storm, MIXED);
        storm.shift('s');
        Checks.dueSheet("7 s", storm, new int[][] {MIXED[4], MIXED[0], MIXED[1], MIXED[2], MIXED[3]});
        Checks.due("7 each call is a modification", storm.undo(), 7);
        Checks.due("7 e, with one row alike", storm.shift('e'), 20);
        Checks.dueSheet("7 e", storm, new int[][] {
            {4, 0, 1, 2, 3},
            {54, 10, 21, 32, 43},
            {95, 99, 98, 97, 96},
            {7, 7, 7, 7, 7},
            {24, 60, 51, 42, 33}});
        Checks.due("7 w", storm.shift('w'), 20);
        Checks.dueSheet("7 w after e", storm, MIXED);
        storm.shift('w');
        Checks.due("7 w, entering on the right", storm.pressureAt(1, 4), 10);
        Checks.due("7 w, moving", storm.pressureAt(1, 0), 21);
        storm.undo();
        for (char direction : new char[] {'N', 'x', ' ', (char) 0, (char) 65535, 'm', 'o', 'v'}) {
            Checks.refused("7 direction", ILLEGAL, () -> storm.shift(direction));
        }
        Checks.dueSheet("7 a refused call changes nothing", storm, MIXED);
    }
}
