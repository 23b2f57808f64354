/** The boundary cases of "Fronts and regions", promises 8 to 17, and of "Looking", promise 28. */
public final class FrontEdgesTest {
    public static void main(String[] args) {
        thresholds();
        differences();
        frontsOfOneCell();
        lastPairs();
        counts();
        steepests();
        slopes();
        detours();
        corners();
        edgesOfTheSheet();
        askedAlone();
        numbersOfRegions();
        Checks.finish("FrontEdgesTest");
    }

    /** "the threshold, which is from 1 to 50" */
    private static void thresholds() {
        PaperStorm storm = new PaperStorm();
        int previous = 20;
        for (int threshold : new int[] {1, 50, 2, 49, 49, 50, 1}) {
            Checks.due("8 previous", storm.setThreshold(threshold), previous);
            Checks.due("9 set", storm.threshold(), threshold);
            previous = threshold;
        }
        Checks.due("8 the same threshold is set successfully too", storm.undo(), 6);
    }

    /** "their pressures differ by at least the threshold" */
    private static void differences() {
        for (int threshold : new int[] {1, 2, 20, 49, 50}) {
            for (int difference : new int[] {0, threshold - 1, threshold, threshold + 1, 99}) {
                dueFront(threshold, 99 - difference, 99, difference >= threshold);
                dueFront(threshold, 0, difference, difference >= threshold);
            }
        }
    }

    private static void dueFront(int threshold, int low, int high, boolean want) {
        String what = low + " beside " + high + " at threshold " + threshold;
        PaperStorm right = halves(low, high, false);
        right.setThreshold(threshold);
        Checks.due("10 " + what, right.isFrontRight(2, 1), want);
        Checks.due("12 " + what, right.frontCount(), want ? 5 : 0);
        dueParted(what, right, want);
        Checks.due("39 " + what, right.writeRow(0), 4 + 2 * ("" + low).length() + 3 * ("" + high).length());
        Checks.due("39 " + what, Edges.line(right).indexOf('|') >= 0, want);
        PaperStorm falling = halves(high, low, false);
        falling.setThreshold(threshold);
        Checks.due("10 falling " + what, falling.isFrontRight(0, 1), want);
        PaperStorm below = halves(low, high, true);
        below.setThreshold(threshold);
        Checks.due("11 " + what, below.isFrontBelow(1, 2), want);
        Checks.due("12 " + what, below.frontCount(), want ? 5 : 0);
        dueParted("below " + what, below, want);
        PaperStorm fallingBelow = halves(high, low, true);
        fallingBelow.setThreshold(threshold);
        Checks.due("11 falling " + what, fallingBelow.isFrontBelow(1, 4), want);
    }

    private static void dueParted(String what, PaperStorm storm, boolean parted) {
        dueRegions(what, storm, parted ? 2 : 1);
        Checks.due("16 " + what, storm.regionSize(0, 0), parted ? 10 : 25);
        Checks.due("16 " + what, storm.regionSize(4, 4), parted ? 15 : 25);
        Checks.due("17 " + what, storm.isSameRegion(0, 0, 4, 4), !parted);
    }

    /** The first two columns, or rows, have one pressure, and the other three have the other one. */
    private static PaperStorm halves(int first, int second, boolean turned) {
        PaperStorm storm = new PaperStorm();
        for (int cell = 0; cell < 25; cell++) {
            storm.setPressure(cell / 5, cell % 5, (turned ? cell / 5 : cell % 5) < 2 ? first : second);
        }
        return storm;
    }

    private static void dueRegions(String what, PaperStorm storm, int want) {
        Checks.due("14 " + what, storm.regionCount(), want);
        Checks.due("15 " + what, storm.regionCountByUnion(), want);
        Checks.due("42 " + what, storm.isConsistent(), true);
    }

    /** "Two cells are adjacent if they are neighbours in a row or in a column": neither across a corner nor an edge. */
    private static void frontsOfOneCell() {
        for (int cell = 0; cell < 25; cell++) {
            int row = cell / 5;
            int column = cell % 5;
            PaperStorm storm = new PaperStorm();
            storm.setPressure(row, column, 99);
            int fronts = (row > 0 ? 1 : 0) + (row < 4 ? 1 : 0) + (column > 0 ? 1 : 0) + (column < 4 ? 1 : 0);
            Checks.due("12 around cell " + cell, storm.frontCount(), fronts);
            Checks.due("13 around cell " + cell, storm.steepest(), 49);
            dueRegions("cell " + cell, storm, 2);
            Checks.due("16 cell " + cell, storm.regionSize(row, column), 1);
            Checks.due("16 the others", storm.regionSize((row + 1) % 5, column), 24);
            for (int other = 0; other < 25; other++) {
                dueFrontsAt(storm, cell, other / 5, other % 5);
            }
        }
    }

    private static void dueFrontsAt(PaperStorm storm, int single, int row, int column) {
        int cell = 5 * row + column;
        if (column < 4) {
            Checks.due("10 at " + cell, storm.isFrontRight(row, column), cell == single || cell + 1 == single);
        }
        if (row < 4) {
            Checks.due("11 at " + cell, storm.isFrontBelow(row, column), cell == single || cell + 5 == single);
        }
        Checks.due("17 with " + cell, storm.isSameRegion(row, column, single / 5, single % 5), cell == single);
        Checks.due("17 the other way", storm.isSameRegion(single / 5, single % 5, row, column), cell == single);
        Checks.due("17 itself", storm.isSameRegion(row, column, row, column), true);
    }

    /** The last cells that have one to the right, or below; one step further is in RefusedEdgesTest. */
    private static void lastPairs() {
        PaperStorm storm = chess();
        for (int place = 0; place < 5; place++) {
            Checks.due("10 first of row " + place, storm.isFrontRight(place, 0), true);
            Checks.due("10 last of row " + place, storm.isFrontRight(place, 3), true);
            Checks.due("11 first of column " + place, storm.isFrontBelow(0, place), true);
            Checks.due("11 last of column " + place, storm.isFrontBelow(3, place), true);
        }
    }

    private static PaperStorm chess() {
        PaperStorm storm = new PaperStorm();
        for (int cell = 0; cell < 25; cell++) {
            storm.setPressure(cell / 5, cell % 5, cell % 2 == 0 ? 0 : 99);
        }
        return storm;
    }

    private static void counts() {
        PaperStorm storm = new PaperStorm();
        Checks.due("12 no front", storm.frontCount(), 0);
        dueRegions("one region", storm, 1);
        Checks.due("16 one region", storm.regionSize(0, 0), 25);
        storm = chess();
        Checks.due("12 all 40 pairs", storm.frontCount(), 40);
        dueRegions("each cell", storm, 25);
        for (int cell = 0; cell < 25; cell++) {
            Checks.due("16 each cell", storm.regionSize(cell / 5, cell % 5), 1);
        }
        storm.setPressure(2, 2, 99);
        Checks.due("12 four fewer", storm.frontCount(), 36);
        dueRegions("five joined", storm, 21);
        Checks.due("16 five joined", storm.regionSize(2, 3), 5);
    }

    /** "the greatest difference of the pressures of two adjacent cells", with or without a front between them. */
    private static void steepests() {
        PaperStorm storm = new PaperStorm();
        Checks.due("13 least", storm.steepest(), 0);
        Checks.due("13 greatest", chess().steepest(), 99);
        for (int cell = 0; cell < 25; cell++) {
            storm = new PaperStorm();
            storm.setPressure(cell / 5, cell % 5, 51);
            Checks.due("13 up by 1", storm.steepest(), 1);
            storm.setPressure(cell / 5, cell % 5, 48);
            Checks.due("13 down by 2", storm.steepest(), 2);
            storm.setPressure(cell / 5, cell % 5, 0);
            Checks.due("13 down to 0", storm.steepest(), 50);
        }
        Checks.due("13 within rows alone", halves(30, 61, false).steepest(), 31);
        Checks.due("13 within columns alone", halves(30, 61, true).steepest(), 31);
        storm = halves(10, 30, false);
        storm.setPressure(0, 4, 50);
        storm.setPressure(4, 0, 0);
        Checks.due("13 not across the edge", storm.steepest(), 20);
        storm = new PaperStorm();
        for (int cell = 0; cell < 25; cell++) {
            storm.setPressure(cell / 5, cell % 5, 4 * (cell % 5) + 3 * (cell / 5));
        }
        Checks.due("13 neither across a corner nor from row to row", storm.steepest(), 4);
    }

    /** "each cell can be reached from each other one by steps": the steps are small, their sum is not. */
    private static void slopes() {
        PaperStorm storm = new PaperStorm();
        for (int cell = 0; cell < 25; cell++) {
            storm.setPressure(cell / 5, cell % 5, 19 * (cell % 5));
        }
        dueRegions("steps below the threshold", storm, 1);
        Checks.due("17 ends of a slope", storm.isSameRegion(0, 0, 0, 4), true);
        storm.setThreshold(19);
        dueRegions("steps of the threshold", storm, 5);
        Checks.due("17 ends of a slope", storm.isSameRegion(0, 0, 0, 4), false);
        Checks.due("16 a column", storm.regionSize(3, 3), 5);
    }

    /** Cells with a front between them are in one region if there is another way. */
    private static void detours() {
        PaperStorm storm = new PaperStorm();
        storm.setPressure(0, 0, 70);
        storm.setPressure(1, 0, 60);
        Checks.due("10 a front", storm.isFrontRight(0, 0), true);
        Checks.due("17 around it", storm.isSameRegion(0, 0, 0, 1), true);
        dueRegions("around a front", storm, 1);
        Checks.due("12 around a front", storm.frontCount(), 1);
        storm.setPressure(1, 0, 70);
        Checks.due("17 the way around is shut", storm.isSameRegion(0, 0, 0, 1), false);
        Checks.due("16 the way around is shut", storm.regionSize(0, 0), 2);
        storm.setPressure(2, 0, 60);
        Checks.due("17 a longer way around", storm.isSameRegion(0, 0, 0, 1), true);
        Checks.due("16 a longer way around", storm.regionSize(0, 0), 25);
    }

    /** Cells that touch at a corner alone are not adjacent. */
    private static void corners() {
        for (int row = 0; row < 4; row++) {
            for (int column = 0; column < 4; column++) {
                PaperStorm falling = new PaperStorm();
                falling.setPressure(row, column, 99);
                falling.setPressure(row + 1, column + 1, 99);
                Checks.due("17 falling", falling.isSameRegion(row, column, row + 1, column + 1), false);
                Checks.due("16 falling", falling.regionSize(row, column), 1);
                PaperStorm rising = new PaperStorm();
                rising.setPressure(row + 1, column, 99);
                rising.setPressure(row, column + 1, 99);
                Checks.due("17 rising", rising.isSameRegion(row + 1, column, row, column + 1), false);
                Checks.due("16 rising", rising.regionSize(row, column + 1), 1);
                // In a corner of the sheet the cell between the two is cut off.
                boolean cutFalling = row == 0 && column == 3 || row == 3 && column == 0;
                boolean cutRising = row == 0 && column == 0 || row == 3 && column == 3;
                dueRegions("falling " + row + " " + column, falling, cutFalling ? 4 : 3);
                dueRegions("rising " + row + " " + column, rising, cutRising ? 4 : 3);
            }
        }
    }

    /** The sheet wraps around when it is shifted, but its edges are not adjacent. */
    private static void edgesOfTheSheet() {
        for (int line = 0; line < 5; line++) {
            dueApart("columns 0 and 4", line, 0, line, 4);
            dueApart("rows 0 and 4", 0, line, 4, line);
            if (line < 4) {
                dueApart("the end of a row and the beginning of the next one", line, 4, line + 1, 0);
                dueApart("the end of a column and the beginning of the next one", 4, line, 0, line + 1);
            }
        }
    }

    private static void dueApart(String what, int row, int column, int otherRow, int otherColumn) {
        PaperStorm storm = new PaperStorm();
        storm.setPressure(row, column, 99);
        storm.setPressure(otherRow, otherColumn, 99);
        Checks.due("17 " + what, storm.isSameRegion(row, column, otherRow, otherColumn), false);
        Checks.due("16 " + what, storm.regionSize(otherRow, otherColumn), 1);
        dueRegions(what, storm, 3);
    }

    /** Sizes and regions follow each change, without a count of regions in between. */
    private static void askedAlone() {
        Edges.On[] changes = {
            storm -> storm.setPressure(0, 0, 99), storm -> storm.setThreshold(50), storm -> storm.setThreshold(49),
            storm -> storm.foldRow(2), PaperStorm::undo, storm -> storm.shift('s'),
            storm -> Checks.run(storm, "set 1 0 50;set 0 0 1"), PaperStorm::restore};
        int[] sizes = {1, 25, 1, 25, 1, 24, 1, 25};
        PaperStorm sized = new PaperStorm();
        PaperStorm compared = new PaperStorm();
        sized.save();
        compared.save();
        for (int index = 0; index < changes.length; index++) {
            changes[index].answer(sized);
            changes[index].answer(compared);
            Checks.due("16 after change " + index, sized.regionSize(0, 0), sizes[index]);
            Checks.due("17 after change " + index, compared.isSameRegion(0, 0, 4, 4), sizes[index] > 1);
        }
    }

    /** "calm for 1, breeze for 2 and 3, gale for 4 to 7, and storm for 8 and more" */
    private static void numbersOfRegions() {
        PaperStorm storm = new PaperStorm();
        for (int cell = 0; cell < 25; cell++) {
            storm.setPressure(cell / 5, cell % 5, 40);
        }
        int[] shown = {0, 1, 1, 2, 2, 2, 2, 3};
        // Each further cell of the chess board is cut off from the rest, row by row.
        for (int regions = 1; regions <= 25; regions++) {
            if (regions > 1) {
                int cell = regions - 2;
                storm.setPressure(cell / 5, cell % 5, cell % 2 == 0 ? 0 : 80);
            }
            dueRegions(regions + " regions", storm, regions);
            Checks.due("28 " + regions + " regions", storm.shownWeather(), shown[Math.min(regions, 8) - 1]);
        }
        Checks.due("20 looking observes nothing", storm.weather(), 0);
        Checks.due("21 looking observes nothing", storm.day(), 0);
    }
}
