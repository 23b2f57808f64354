import java.util.NoSuchElementException;

/** Promises 8 to 17: fronts and regions. */
public final class FrontsTest {
    private static final Class<IndexOutOfBoundsException> OUTSIDE = IndexOutOfBoundsException.class;
    private static final Class<NoSuchElementException> NOTHING = NoSuchElementException.class;
    // One wall of 90 winds through the sheet, so that the flood has to go in all four directions.
    private static final int[][] SNAKE = {
        {10, 10, 10, 10, 10},
        {90, 90, 90, 90, 10},
        {10, 10, 10, 90, 10},
        {10, 90, 10, 90, 10},
        {10, 90, 10, 10, 10}};
    private static final int[][] CHESS = {
        {0, 99, 0, 99, 0},
        {99, 0, 99, 0, 99},
        {0, 99, 0, 99, 0},
        {99, 0, 99, 0, 99},
        {0, 99, 0, 99, 0}};
    private static final int[][] OUTSIDE_CELLS = {
        {-1, 0}, {5, 0}, {0, -1}, {0, 5}, {Integer.MAX_VALUE, 0}, {0, Integer.MAX_VALUE}, {Integer.MIN_VALUE, 2}};

    public static void main(String[] args) {
        thresholds();
        frontRight();
        frontBelow();
        frontCount();
        steepest();
        regionCounts();
        regionSize();
        sameRegion();
        Checks.finish("FrontsTest");
    }

    private static void thresholds() {
        PaperStorm storm = new PaperStorm();
        Checks.due("8 first", storm.setThreshold(1), 20);
        Checks.due("9 lowest", storm.threshold(), 1);
        Checks.due("8 again", storm.setThreshold(50), 1);
        Checks.due("9 highest", storm.threshold(), 50);
        for (int threshold : new int[] {0, 51, -1, Integer.MAX_VALUE, Integer.MIN_VALUE}) {
            Checks.refused("8 range", IllegalArgumentException.class, () -> storm.setThreshold(threshold));
        }
        Checks.due("9 after refused calls", storm.threshold(), 50);
        Checks.due("8 each call is a modification", storm.undo(), 1);
        Checks.due("9 undone", storm.threshold(), 1);
    }

    private static void frontRight() {
        PaperStorm storm = new PaperStorm();
        storm.setPressure(2, 2, 70);
        Checks.due("10 equal to the threshold", storm.isFrontRight(2, 2), true);
        Checks.due("10 from the lower side", storm.isFrontRight(2, 1), true);
        storm.setPressure(2, 2, 69);
        Checks.due("10 below the threshold", storm.isFrontRight(2, 2), false);
        storm.setPressure(2, 2, 30);
        Checks.due("10 lower cell", storm.isFrontRight(2, 2), true);
        Checks.due("10 elsewhere", storm.isFrontRight(1, 2), false);
        Checks.due("10 last pair", storm.isFrontRight(4, 3), false);
        storm.setPressure(0, 4, 0);
        for (int row = 0; row < 5; row++) {
            int place = row;
            Checks.refused("10 no cell to the right", NOTHING, () -> storm.isFrontRight(place, 4));
        }
        for (int[] cell : OUTSIDE_CELLS) {
            Checks.refused("10 cell", OUTSIDE, () -> storm.isFrontRight(cell[0], cell[1]));
        }
        Checks.refused("10 cell first", OUTSIDE, () -> storm.isFrontRight(5, 4));
    }

    private static void frontBelow() {
        PaperStorm storm = new PaperStorm();
        storm.setPressure(2, 2, 70);
        Checks.due("11 equal to the threshold", storm.isFrontBelow(2, 2), true);
        Checks.due("11 from the lower side", storm.isFrontBelow(1, 2), true);
        storm.setPressure(2, 2, 69);
        Checks.due("11 below the threshold", storm.isFrontBelow(2, 2), false);
        storm.setPressure(2, 2, 30);
        Checks.due("11 lower pressure", storm.isFrontBelow(2, 2), true);
        Checks.due("11 elsewhere", storm.isFrontBelow(2, 1), false);
        Checks.due("11 last pair", storm.isFrontBelow(3, 4), false);
        for (int column = 0; column < 5; column++) {
            int place = column;
            Checks.refused("11 no cell below", NOTHING, () -> storm.isFrontBelow(4, place));
        }
        for (int[] cell : OUTSIDE_CELLS) {
            Checks.refused("11 cell", OUTSIDE, () -> storm.isFrontBelow(cell[0], cell[1]));
        }
        Checks.refused("11 cell first", OUTSIDE, () -> storm.isFrontBelow(4, 5));
    }

    private static void frontCount() {
        PaperStorm storm = new PaperStorm();
        Checks.due("12 none", storm.frontCount(), 0);
        storm.setPressure(4, 4, 0);
        Checks.due("12 a corner", storm.frontCount(), 2);
        storm.setPressure(0, 4, 0);
        storm.setPressure(4, 0, 0);
        Checks.due("12 three corners", storm.frontCount(), 6);
        Checks.fill(storm, CHESS);
        Checks.due("12 all", storm.frontCount(), 40);
        Checks.fill(storm, new int[][] {{90, 0, 0, 0, 0}, {0, 0, 0, 0, 90}, {0, 0, 0, 0, 90}, new int[5], new int[5]});
        Checks.due("12 none across the edge of the sheet", storm.frontCount(), 2 + 4);
    }

    private static void steepest() {
        PaperStorm storm = new PaperStorm();
        Checks.due("13 none", storm.steepest(), 0);
        storm.setPressure(4, 4, 51);
        Checks.due("13 below the threshold counts too", storm.steepest(), 1);
        storm.setPressure(4, 4, 3);
        Checks.due("13 falling", storm.steepest(), 47);
        storm.setPressure(0, 0, 99);
        Checks.due("13 the greatest one", storm.steepest(), 49);
        Checks.fill(storm, CHESS);
        Checks.due("13 all the range", storm.steepest(), 99);
        Checks.fill(storm, new int[][] {
            {0, 9, 18, 27, 36}, {9, 18, 27, 36, 45}, {18, 27, 36, 45, 54}, {27, 36, 45, 54, 63}, {36, 45, 54, 63, 73}});
        Checks.due("13 adjacent cells alone", storm.steepest(), 10);
        int[] rising = {3, 7, 37, 40, 41};
        Checks.fill(storm, new int[][] {rising, rising, rising, rising, rising});
        Checks.due("13 within rows alone", storm.steepest(), 30);
        storm.shift('e');
        Checks.due("13 at the end of the row too", storm.steepest(), 38);
        for (int cell = 0; cell < 25; cell++) {
            storm.setPressure(cell / 5, cell % 5, rising[cell / 5]);
        }
        Checks.due("13 within columns alone", storm.steepest(), 30);
    }

    private static void regionCounts() {
        PaperStorm storm = new PaperStorm();
        dueRegions("one", storm, 1);
        Checks.fill(storm, CHESS);
        dueRegions("each cell", storm, 25);
        Checks.fill(storm, SNAKE);
        dueRegions("two walls and what is between", storm, 3);
        storm.setThreshold(50);
        storm.setPressure(0, 0, 45);
        dueRegions("a step below the threshold joins", storm, 2);
        storm.setPressure(0, 0, 60);
        dueRegions("a step of the threshold parts", storm, 3);
    }

    private static void dueRegions(String what, PaperStorm storm, int want) {
        Checks.due("14 " + what, storm.regionCount(), want);
        Checks.due("15 " + what, storm.regionCountByUnion(), want);
    }

    private static void regionSize() {
        PaperStorm storm = new PaperStorm();
        Checks.due("16 all", storm.regionSize(4, 0), 25);
        Checks.fill(storm, SNAKE);
        Checks.due("16 the long one", storm.regionSize(0, 0), 17);
        Checks.due("16 the long one from its other end", storm.regionSize(4, 0), 17);
        Checks.due("16 a wall", storm.regionSize(1, 1), 6);
        Checks.due("16 the small wall", storm.regionSize(4, 1), 2);
        Checks.fill(storm, CHESS);
        Checks.due("16 one", storm.regionSize(4, 4), 1);
        for (int[] cell : OUTSIDE_CELLS) {
            Checks.refused("16 cell", OUTSIDE, () -> storm.regionSize(cell[0], cell[1]));
        }
    }

    private static void sameRegion() {
        PaperStorm storm = new PaperStorm();
        Checks.due("17 all", storm.isSameRegion(0, 0, 4, 4), true);
        Checks.fill(storm, SNAKE);
        Checks.due("17 far", storm.isSameRegion(0, 0, 4, 0), true);
        Checks.due("17 the cell itself", storm.isSameRegion(3, 3, 3, 3), true);
        Checks.due("17 across a front", storm.isSameRegion(0, 0, 1, 0), false);
        Checks.due("17 equal pressures apart", storm.isSameRegion(1, 1, 4, 1), false);
        for (int[] cell : OUTSIDE_CELLS) {
            Checks.refused("17 one cell", OUTSIDE, () -> storm.isSameRegion(cell[0], cell[1], 0, 0));
            Checks.refused("17 other cell", OUTSIDE, () -> storm.isSameRegion(4, 4, cell[0], cell[1]));
        }
    }
}
