/** The boundary cases of promises 39 to 42: lines and checks. */
public final class LineEdgesTest {
    public static void main(String[] args) {
        emptyAtFirst();
        rows();
        fronts();
        chances();
        ends();
        replaced();
        staysAsWritten();
        consistentAtTheEnds();
        Checks.finish("LineEdgesTest");
    }

    private static void emptyAtFirst() {
        PaperStorm storm = new PaperStorm();
        for (int index : new int[] {0, 1, -1, Edges.LOWEST, Edges.HIGHEST}) {
            Checks.refused("41 empty at first", Edges.OUTSIDE, () -> storm.lineAt(index));
        }
    }

    private static void dueRow(PaperStorm storm, int row, String want) {
        Checks.due("39 length", storm.writeRow(row), want.length());
        Checks.due("39 line", Edges.line(storm), want);
    }

    /** "the row, 0 to 4", and pressures of one digit and of two. */
    private static void rows() {
        PaperStorm storm = new PaperStorm();
        Checks.fill(storm, new int[][] {
            {0, 0, 0, 0, 0}, {9, 10, 9, 10, 9}, {99, 99, 99, 99, 99}, {0, 99, 0, 99, 0}, {1, 2, 3, 4, 50}});
        dueRow(storm, 0, "0 0 0 0 0");
        dueRow(storm, 1, "9 10 9 10 9");
        dueRow(storm, 2, "99 99 99 99 99");
        dueRow(storm, 3, "0|99|0|99|0");
        dueRow(storm, 4, "1 2 3 4|50");
        Checks.fill(storm, new int[][] {{50, 99, 90, 7, 7}, {7, 7, 90, 99, 50}, {0, 1, 0, 1, 0}, new int[5], new int[5]});
        dueRow(storm, 0, "50|99 90|7 7");
        dueRow(storm, 1, "7 7|90 99|50");
        storm.setThreshold(1);
        dueRow(storm, 2, "0|1|0|1|0");
        dueRow(storm, 3, "0 0 0 0 0");
    }

    /** A bar stands where the difference is the threshold, and a blank where it is 1 less. */
    private static void fronts() {
        for (int place = 1; place < 5; place++) {
            PaperStorm storm = new PaperStorm();
            for (int column = 0; column < 5; column++) {
                storm.setPressure(2, column, column < place ? 30 : 50);
            }
            StringBuilder want = new StringBuilder("30 30 30 30 30");
            for (int column = place; column < 5; column++) {
                want.setCharAt(3 * column, '5');
            }
            want.setCharAt(3 * place - 1, '|');
            dueRow(storm, 2, want.toString());
            storm.setThreshold(21);
            want.setCharAt(3 * place - 1, ' ');
            dueRow(storm, 2, want.toString());
        }
    }

    private static void dueChances(PaperStorm storm, int days, String want) {
        Checks.due("40 length", storm.writeChances(days), want.length());
        Checks.due("40 line", Edges.line(storm), want);
    }

    /** "the number of days, 0 to 3", with the fractions of 0 and of 1. */
    private static void chances() {
        PaperStorm storm = new PaperStorm();
        dueChances(storm, 0, "calm=1/1 breeze=0/1 gale=0/1 storm=0/1");
        for (int days = 1; days <= 3; days++) {
            dueChances(storm, days, "calm=1/4 breeze=1/4 gale=1/4 storm=1/4");
        }
        storm.setWeight(0, 0, 2);
        storm.setWeight(0, 3, 0);
        dueChances(storm, 1, "calm=1/2 breeze=1/4 gale=1/4 storm=0/1");
        storm.observe(3);
        dueChances(storm, 0, "calm=0/1 breeze=0/1 gale=0/1 storm=1/1");
    }

    /** The first and the last character, and one step beyond each. */
    private static void ends() {
        PaperStorm storm = new PaperStorm();
        dueEnds(storm, storm.writeRow(0), '5', '0');
        storm.setPressure(4, 0, 8);
        storm.setPressure(4, 4, 7);
        dueEnds(storm, storm.writeRow(4), '8', '7');
        dueEnds(storm, storm.writeChances(0), 'c', '1');
        dueEnds(storm, storm.writeChances(3), 'c', '4');
    }

    private static void dueEnds(PaperStorm storm, int length, char first, char last) {
        Checks.due("41 first", storm.lineAt(0), first);
        Checks.due("41 last", storm.lineAt(length - 1), last);
        for (int index : Edges.around(0, length - 1)) {
            Checks.refused("41 beyond the line", Edges.OUTSIDE, () -> storm.lineAt(index));
        }
    }

    /** "which replaces the previous line", a longer one and a shorter one. */
    private static void replaced() {
        PaperStorm storm = new PaperStorm();
        Checks.due("40 long", storm.writeChances(1), 38);
        Checks.due("39 short", storm.writeRow(1), 14);
        Checks.due("39 nothing is left of the long one", Edges.line(storm), "50 50 50 50 50");
        Checks.refused("41 nothing is left of the long one", Edges.OUTSIDE, () -> storm.lineAt(37));
        Checks.due("40 long again", storm.writeChances(0), 38);
        Checks.due("40 nothing is left of the short one", storm.lineAt(0), 'c');
        Checks.due("40 the same again", storm.writeChances(0), 38);
        Checks.due("40 the same again", Edges.line(storm), "calm=1/1 breeze=0/1 gale=0/1 storm=0/1");
    }

    /** "the line [is] not part of the state that is undone, saved or restored" */
    private static void staysAsWritten() {
        PaperStorm storm = new PaperStorm();
        storm.setPressure(0, 0, 7);
        storm.save();
        storm.writeRow(0);
        storm.setPressure(0, 0, 99);
        Checks.due("41 as written", Edges.line(storm), "7|50 50 50 50");
        storm.undo();
        storm.undo();
        Checks.due("41 not undone", Edges.line(storm), "7|50 50 50 50");
        storm.writeRow(4);
        storm.restore();
        Checks.due("41 not restored", Edges.line(storm), "50 50 50 50 50");
        Checks.run(storm, "set 4 4 9");
        Checks.due("41 not executed", Edges.line(storm), "50 50 50 50 50");
        Checks.refused("39 writing is no modification", Edges.STATE, () -> {
            storm.undo();
            storm.writeRow(0);
            storm.writeChances(0);
            return storm.undo();
        });
    }

    /** "Returns whether the station is consistent": it is in each state, at the ends of all ranges too. */
    private static void consistentAtTheEnds() {
        int[][][] weights = {
            {{1, 0, 0, 0}, {0, 1, 0, 0}, {0, 0, 1, 0}, {0, 0, 0, 1}},
            {{3, 3, 3, 3}, {3, 3, 3, 3}, {3, 3, 3, 3}, {3, 3, 3, 3}},
            {{3, 2, 3, 3}, {1, 2, 3, 3}, {3, 3, 1, 3}, {0, 1, 3, 3}},
            {{0, 0, 0, 3}, {3, 0, 0, 0}, {0, 3, 0, 0}, {0, 0, 3, 0}},
            {{3, 3, 3, 2}, {3, 3, 3, 1}, {2, 3, 2, 2}, {3, 1, 2, 1}}};
        for (int[][] each : weights) {
            PaperStorm storm = WeatherEdgesTest.weighted(each);
            for (int weather = 0; weather < 4; weather++) {
                storm.observe(weather);
                Checks.due("42 weights", storm.isConsistent(), true);
            }
        }
        for (int threshold : new int[] {1, 20, 50}) {
            PaperStorm storm = new PaperStorm();
            storm.setThreshold(threshold);
            Checks.due("42 one region", storm.isConsistent(), true);
            for (int cell = 0; cell < 25; cell++) {
                storm.setPressure(cell / 5, cell % 5, cell % 2 * 99);
                Checks.due("42 region by region", storm.isConsistent(), true);
            }
        }
        Checks.refused("42 asking is no modification", Edges.STATE, () -> {
            PaperStorm storm = new PaperStorm();
            storm.isConsistent();
            return storm.undo();
        });
    }
}
