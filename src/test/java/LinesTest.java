/** Promises 39 to 42: lines and checks. */
public final class LinesTest {
    private static final Class<IndexOutOfBoundsException> OUTSIDE = IndexOutOfBoundsException.class;

    public static void main(String[] args) {
        writeRow();
        writeChances();
        lineAt();
        isConsistent();
        Checks.finish("LinesTest");
    }

    private static void dueRow(PaperStorm storm, int row, String want) {
        int length = storm.writeRow(row);
        Checks.due("39 length", length, want.length());
        Checks.due("39 line", Checks.lineOf(storm, length), want);
        Checks.refused("39 end", OUTSIDE, () -> storm.lineAt(length));
    }

    private static void writeRow() {
        PaperStorm storm = new PaperStorm();
        dueRow(storm, 0, "50 50 50 50 50");
        int[] pressures = {50, 99, 90, 7, 7};
        for (int column = 0; column < 5; column++) {
            storm.setPressure(4, column, pressures[column]);
        }
        dueRow(storm, 4, "50|99 90|7 7");
        for (int column = 0; column < 5; column++) {
            storm.setPressure(2, column, column * 5);
        }
        dueRow(storm, 2, "0 5 10 15 20");
        storm.setThreshold(5);
        dueRow(storm, 2, "0|5|10|15|20");
        dueRow(storm, 3, "50 50 50 50 50");
        for (int row : new int[] {-1, 5, Integer.MAX_VALUE, Integer.MIN_VALUE}) {
            Checks.refused("39 row", OUTSIDE, () -> storm.writeRow(row));
        }
        Checks.due("39 a refused call keeps the line", Checks.lineOf(storm, 14), "50 50 50 50 50");
    }

    private static void dueChances(PaperStorm storm, int days, String want) {
        int length = storm.writeChances(days);
        Checks.due("40 length", length, want.length());
        Checks.due("40 line", Checks.lineOf(storm, length), want);
        Checks.refused("40 end", OUTSIDE, () -> storm.lineAt(length));
    }

    private static void writeChances() {
        PaperStorm storm = new PaperStorm();
        dueChances(storm, 0, "calm=1/1 breeze=0/1 gale=0/1 storm=0/1");
        dueChances(storm, 3, "calm=1/4 breeze=1/4 gale=1/4 storm=1/4");
        storm.setWeight(0, 0, 2);
        storm.setWeight(0, 3, 0);
        dueChances(storm, 1, "calm=1/2 breeze=1/4 gale=1/4 storm=0/1");
        dueChances(storm, 2, "calm=3/8 breeze=1/4 gale=1/4 storm=1/8");
        dueChances(storm, 3, "calm=11/32 breeze=1/4 gale=1/4 storm=5/32");
        for (int days : new int[] {-1, 4, Integer.MAX_VALUE, Integer.MIN_VALUE}) {
            Checks.refused("40 days", IllegalArgumentException.class, () -> storm.writeChances(days));
        }
        Checks.due("40 a refused call keeps the line", storm.lineAt(5), '1');
        int[][] weights = {{3, 2, 3, 3}, {1, 2, 3, 3}, {3, 3, 1, 3}, {0, 1, 3, 3}};
        for (int change = 0; change < 16; change++) {
            storm.setWeight(change / 4, change % 4, weights[change / 4][change % 4]);
        }
        dueChances(storm, 3, "calm=1673989/10781100 breeze=111108071/528273900"
                + " gale=50941279/176091300 storm=60772177/176091300");
    }

    private static void lineAt() {
        PaperStorm storm = new PaperStorm();
        Checks.refused("41 empty at first", OUTSIDE, () -> storm.lineAt(0));
        storm.writeChances(1);
        Checks.due("41 first", storm.lineAt(0), 'c');
        Checks.due("41 last", storm.lineAt(37), '4');
        storm.writeRow(0);
        Checks.due("41 replaced", storm.lineAt(0), '5');
        for (int index : new int[] {-1, 14, 37, Integer.MAX_VALUE, Integer.MIN_VALUE}) {
            Checks.refused("41 index", OUTSIDE, () -> storm.lineAt(index));
        }
        storm.setPressure(0, 0, 7);
        Checks.due("41 as written", storm.lineAt(0), '5');
        storm.undo();
        storm.save();
        storm.writeRow(1);
        storm.restore();
        Checks.due("41 not restored", storm.lineAt(13), '0');
    }

    private static void isConsistent() {
        PaperStorm storm = new PaperStorm();
        Checks.due("42 new", storm.isConsistent(), true);
        storm.writeRow(0);
        for (int step = 0; step < 40; step++) {
            storm.setPressure(step % 5, step * 7 % 5, step * 37 % 100);
            storm.setWeight(step % 4, step / 4 % 4, 1 + step % 3);
            storm.observe(step * 5 % 4);
            Checks.due("42 step", storm.isConsistent(), true);
        }
        Checks.due("42 leaves the line", storm.lineAt(0), '5');
    }
}
