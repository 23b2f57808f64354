/**
 * "A method that throws an exception leaves the state unchanged, except that execute empties the text buffer. If several
 * exceptions apply, the one that is documented first is thrown."
 */
public final class RefusedEdgesTest {
    private static final Edges.Maker FRESH = Edges::fresh;
    private static final Edges.Maker BUSY = Edges::busy;
    // The sheet, weather and text calls are refused in a new object as well as in one that has a past.
    private static final Edges.Maker[] BOTH = {FRESH, BUSY};

    public static void main(String[] args) {
        cells();
        folds();
        shifts();
        thresholds();
        fronts();
        regions();
        weights();
        chances();
        forecasts();
        forecastsThatAreNot();
        means();
        lines();
        typing();
        malformedTexts();
        failingTexts();
        errorsThatAreNot();
        undoAndRestore();
        Checks.finish("RefusedEdgesTest");
    }

    private static void refused(String what, Class<? extends RuntimeException> want, Edges.On call) {
        for (Edges.Maker maker : BOTH) {
            Edges.refusedUnchanged(what, want, maker, call);
        }
    }

    private static void cells() {
        for (int[] cell : Edges.noCells()) {
            refused("2 no such cell", Edges.OUTSIDE, storm -> storm.setPressure(cell[0], cell[1], 7));
            refused("3 no such cell", Edges.OUTSIDE, storm -> storm.pressureAt(cell[0], cell[1]));
        }
        for (int pressure : Edges.around(0, 99)) {
            refused("2 pressure out of range", Edges.ILLEGAL, storm -> storm.setPressure(0, 0, pressure));
            refused("2 pressure out of range", Edges.ILLEGAL, storm -> storm.setPressure(4, 4, pressure));
            refused("2 the cell goes first", Edges.OUTSIDE, storm -> storm.setPressure(5, 0, pressure));
            refused("2 the cell goes first", Edges.OUTSIDE, storm -> storm.setPressure(0, -1, pressure));
        }
    }

    private static void folds() {
        for (int fold : new int[] {-1, 0, 4, 5, Edges.LOWEST, Edges.HIGHEST}) {
            refused("5 row out of range", Edges.OUTSIDE, storm -> storm.foldRow(fold));
            refused("6 column out of range", Edges.OUTSIDE, storm -> storm.foldColumn(fold));
        }
    }

    private static void shifts() {
        for (char direction = 0; direction < 256; direction++) {
            char sign = direction;
            if ("nesw".indexOf(sign) < 0) {
                Checks.refused("7 no such direction " + (int) sign, Edges.ILLEGAL, () -> new PaperStorm().shift(sign));
            }
        }
        for (char sign : new char[] {'m', 'o', 'd', 'f', 'r', 't', 'v', 'x', 'N', 'E', 'S', 'W', ' ', 0, 65535}) {
            refused("7 no such direction", Edges.ILLEGAL, storm -> storm.shift(sign));
        }
    }

    private static void thresholds() {
        for (int threshold : Edges.around(1, 50)) {
            refused("8 threshold out of range", Edges.ILLEGAL, storm -> storm.setThreshold(threshold));
        }
        refused("8 threshold out of range", Edges.ILLEGAL, storm -> storm.setThreshold(-1));
        refused("8 threshold out of range", Edges.ILLEGAL, storm -> storm.setThreshold(99));
    }

    private static void fronts() {
        for (int[] cell : Edges.noCells()) {
            refused("10 no such cell", Edges.OUTSIDE, storm -> storm.isFrontRight(cell[0], cell[1]));
            refused("11 no such cell", Edges.OUTSIDE, storm -> storm.isFrontBelow(cell[0], cell[1]));
        }
        for (int place = 0; place < 5; place++) {
            int line = place;
            refused("10 no cell to the right", Edges.NOTHING, storm -> storm.isFrontRight(line, 4));
            refused("11 no cell below", Edges.NOTHING, storm -> storm.isFrontBelow(4, line));
        }
        for (int outside : Edges.around(0, 4)) {
            refused("10 the cell goes first", Edges.OUTSIDE, storm -> storm.isFrontRight(outside, 4));
            refused("11 the cell goes first", Edges.OUTSIDE, storm -> storm.isFrontBelow(4, outside));
        }
    }

    private static void regions() {
        for (int[] cell : Edges.noCells()) {
            refused("16 no such cell", Edges.OUTSIDE, storm -> storm.regionSize(cell[0], cell[1]));
            refused("17 the cell does not exist", Edges.OUTSIDE, storm -> storm.isSameRegion(cell[0], cell[1], 0, 0));
            refused("17 the other does not exist", Edges.OUTSIDE, storm -> storm.isSameRegion(4, 4, cell[0], cell[1]));
            refused("17 neither exists", Edges.OUTSIDE, storm -> storm.isSameRegion(cell[0], cell[1], cell[0], cell[1]));
        }
    }

    private static void weights() {
        for (int none : Edges.around(0, 3)) {
            for (int other = 0; other < 4; other++) {
                int weather = other;
                refused("18 no such weather before", Edges.ILLEGAL, storm -> storm.setWeight(none, weather, 1));
                refused("18 no such weather after", Edges.ILLEGAL, storm -> storm.setWeight(weather, none, 1));
                refused("18 weight out of range", Edges.ILLEGAL, storm -> storm.setWeight(weather, 3, none));
                refused("19 no such weather before", Edges.ILLEGAL, storm -> storm.weightOf(none, weather));
                refused("19 no such weather after", Edges.ILLEGAL, storm -> storm.weightOf(weather, none));
            }
        }
        Edges.refusedUnchanged("18 the sum would be 0", Edges.STATE, BUSY, storm -> storm.setWeight(1, 1, 0));
        for (int none : Edges.around(0, 3)) {
            // From weather 1 of the busy object only the change to 1 is left.
            Edges.refusedUnchanged("18 the weather goes first", Edges.ILLEGAL, BUSY, storm -> storm.setWeight(1, none, 0));
            Edges.refusedUnchanged("18 the weight goes first", Edges.ILLEGAL, BUSY, storm -> storm.setWeight(1, 1, none));
        }
        for (int from = 0; from < 4; from++) {
            for (int to = 0; to < 4; to++) {
                int before = from;
                int last = to;
                Edges.Maker oneLeft = () -> onlyChange(before, last);
                Edges.refusedUnchanged("18 the sum would be 0", Edges.STATE, oneLeft, storm -> storm.setWeight(before, last, 0));
            }
        }
    }

    private static PaperStorm onlyChange(int from, int only) {
        PaperStorm storm = new PaperStorm();
        for (int to = 0; to < 4; to++) {
            if (to != only) {
                storm.setWeight(from, to, 0);
            }
        }
        return storm;
    }

    private static void chances() {
        for (int none : Edges.around(0, 3)) {
            for (int inside = 0; inside < 4; inside++) {
                int good = inside;
                refused("22 days", Edges.ILLEGAL, storm -> storm.chanceNumerator(none, good));
                refused("22 weather", Edges.ILLEGAL, storm -> storm.chanceNumerator(good, none));
                refused("23 days", Edges.ILLEGAL, storm -> storm.chanceDenominator(none, good));
                refused("23 weather", Edges.ILLEGAL, storm -> storm.chanceDenominator(good, none));
                refused("24 days", Edges.ILLEGAL, storm -> storm.numeratorByBranches(none, good));
                refused("24 weather", Edges.ILLEGAL, storm -> storm.numeratorByBranches(good, none));
                refused("25 days", Edges.ILLEGAL, storm -> storm.denominatorByBranches(none, good));
                refused("25 weather", Edges.ILLEGAL, storm -> storm.denominatorByBranches(good, none));
                refused("26 days", Edges.ILLEGAL, storm -> storm.sequenceCount(none, good));
                refused("26 weather", Edges.ILLEGAL, storm -> storm.sequenceCount(good, none));
            }
            refused("27 days", Edges.ILLEGAL, storm -> storm.likeliest(none));
        }
    }

    private static void forecasts() {
        for (int days : Edges.around(1, 3)) {
            refused("29 days out of range, and before the 6 forecasts", Edges.ILLEGAL, storm -> storm.issue(days));
        }
        for (int days = 1; days <= 3; days++) {
            int good = days;
            Edges.refusedUnchanged("29 there are 6 forecasts", Edges.STATE, BUSY, storm -> storm.issue(good));
        }
        for (int weather : Edges.around(0, 3)) {
            refused("31 no such weather", Edges.ILLEGAL, storm -> storm.observe(weather));
        }
    }

    private static void forecastsThatAreNot() {
        for (int count = 0; count <= 6; count++) {
            int issued = count;
            Edges.Maker maker = () -> issuedForecasts(issued);
            for (int forecast : Edges.around(0, count - 1)) {
                Edges.refusedUnchanged("30 no such forecast", Edges.OUTSIDE, maker, storm -> storm.withdraw(forecast));
                Edges.refusedUnchanged("33 no such forecast", Edges.OUTSIDE, maker, storm -> storm.dayOf(forecast));
                Edges.refusedUnchanged("34 no such forecast", Edges.OUTSIDE, maker, storm -> storm.weatherOf(forecast));
            }
        }
    }

    private static PaperStorm issuedForecasts(int count) {
        PaperStorm storm = new PaperStorm();
        storm.setWeight(0, 2, 3);
        for (int forecast = 0; forecast < count; forecast++) {
            storm.issue(1 + forecast % 3);
        }
        return storm;
    }

    private static void means() {
        for (Edges.Maker maker : new Edges.Maker[] {FRESH, () -> issuedForecasts(6)}) {
            Edges.refusedUnchanged("37 no forecast was scored", Edges.NO_MEAN, maker, PaperStorm::meanError);
            Edges.refusedUnchanged("38 no forecast was scored", Edges.NO_MEAN, maker, PaperStorm::hitShare);
        }
    }

    private static void lines() {
        for (int row : Edges.around(0, 4)) {
            refused("39 no such row", Edges.OUTSIDE, storm -> storm.writeRow(row));
        }
        for (int days : Edges.around(0, 3)) {
            refused("40 days out of range", Edges.ILLEGAL, storm -> storm.writeChances(days));
        }
        for (int index : new int[] {-1, 14, 200, Edges.LOWEST, Edges.HIGHEST}) {
            refused("41 no such character", Edges.OUTSIDE, storm -> storm.lineAt(index));
        }
        Edges.refusedUnchanged("41 the line is empty at first", Edges.OUTSIDE, FRESH, storm -> storm.lineAt(0));
    }

    private static void typing() {
        Edges.Maker full = () -> {
            PaperStorm storm = new PaperStorm();
            Checks.typeAll(storm, "threshold 11;threshold 12;threshold 13;threshold 4;observe 1");
            return storm;
        };
        for (char character : new char[] {0, 31, 127, 128, 255, 256, 32 + 256, 65535}) {
            refused("43 not from 32 to 126", Edges.ILLEGAL, storm -> storm.type(character));
            Edges.refusedUnchanged("43 the character goes first", Edges.ILLEGAL, full, storm -> storm.type(character));
        }
        for (char character : new char[] {32, 126, ';', '1'}) {
            Edges.refusedUnchanged("43 the buffer is full", Edges.STATE, full, storm -> storm.type(character));
        }
    }

    /** A refused text leaves the object as one whose buffer was empty, but for what is stored of the error. */
    private static void dueEmptied(String text, Class<? extends RuntimeException> want, String errors) {
        Edges.Maker past = () -> {
            PaperStorm storm = Edges.busy();
            storm.execute();
            return storm;
        };
        Edges.On refusal = storm -> {
            Checks.typeAll(storm, text);
            return storm.execute();
        };
        Edges.Maker after = Edges.after(past, refusal);
        Checks.due("44 refused " + text, Edges.answerOf(past.make(), refusal), want);
        Edges.dueSame("44 the state is unchanged after " + text, Edges.state(after), Edges.state(past));
        Checks.due("44 the buffer is empty after " + text, after.make().type('x'), 1);
        Checks.due("44 what is stored of " + text, Edges.errors(after), errors);
    }

    private static void malformedTexts() {
        // The last failed command of the busy object is 1.
        dueEmptied("", Edges.ILLEGAL, "error position 0 failed command 1\n");
        dueEmptied("x", Edges.ILLEGAL, "error position 0 failed command 1\n");
        dueEmptied("set 0 0 9;loo", Edges.ILLEGAL, "error position 13 failed command 1\n");
        dueEmptied("set 0 0 9;look;", Edges.ILLEGAL, "error position 15 failed command 1\n");
        dueEmptied("row 2;set 0 0 100", Edges.ILLEGAL, "error position 16 failed command 1\n");
        dueEmptied("row 9;observe 5;x", Edges.ILLEGAL, "error position 16 failed command 1\n");
    }

    private static void failingTexts() {
        // The busy object's errors so far are 4 and 1.
        dueEmptied("row 0", Edges.STATE, "error position 4 failed command 0\n");
        dueEmptied("set 2 2 9;row 1;column 3;shift s;threshold 1;column 4", Edges.STATE, "error position 4 failed command 5\n");
        dueEmptied("weight 0 0 0;weight 1 1 0", Edges.STATE, "error position 4 failed command 1\n");
        dueEmptied("observe 3;observe 3;observe 3;look;withdraw 0", Edges.STATE, "error position 4 failed command 4\n");
        // Four forecasts are left after the busy object's text.
        dueEmptied("issue 3;withdraw 0;issue 1;issue 2;issue 1", Edges.STATE, "error position 4 failed command 4\n");
        dueEmptied("look;look;look;look;look;look;look;look;look;look;look;row 4", Edges.STATE,
                "error position 4 failed command 11\n");
    }

    private static void errorsThatAreNot() {
        Edges.Maker failed = () -> executed("row 0");
        Edges.Maker malformed = () -> executed("row");
        Edges.refusedUnchanged("45 no text so far", Edges.NOTHING, FRESH, PaperStorm::errorPosition);
        Edges.refusedUnchanged("45 no text was malformed so far", Edges.NOTHING, failed, PaperStorm::errorPosition);
        Edges.refusedUnchanged("46 no text so far", Edges.NOTHING, FRESH, PaperStorm::failedCommand);
        Edges.refusedUnchanged("46 no command failed so far", Edges.NOTHING, malformed, PaperStorm::failedCommand);
    }

    private static PaperStorm executed(String text) {
        PaperStorm storm = new PaperStorm();
        Checks.typeAll(storm, text);
        Edges.answerOf(storm, PaperStorm::execute);
        return storm;
    }

    private static void undoAndRestore() {
        Edges.Maker allUndone = () -> {
            PaperStorm storm = Edges.busy();
            for (int step = 0; step < 8; step++) {
                storm.undo();
            }
            return storm;
        };
        Edges.Maker restored = Edges.after(BUSY, PaperStorm::restore);
        for (Edges.Maker maker : new Edges.Maker[] {FRESH, allUndone, restored}) {
            Edges.refusedUnchanged("47 there is none", Edges.STATE, maker, PaperStorm::undo);
        }
        Edges.Maker unsaved = () -> executed("set 2 2 9;observe 1");
        for (Edges.Maker maker : new Edges.Maker[] {FRESH, unsaved, () -> issuedForecasts(6)}) {
            Edges.refusedUnchanged("49 there is no snapshot", Edges.STATE, maker, PaperStorm::restore);
        }
    }
}
