import java.util.NoSuchElementException;

/** What the tests of the boundary cases share: kinds of refusals, and pictures of all that an object can be asked. */
final class Edges {
    static final Class<IndexOutOfBoundsException> OUTSIDE = IndexOutOfBoundsException.class;
    static final Class<IllegalArgumentException> ILLEGAL = IllegalArgumentException.class;
    static final Class<IllegalStateException> STATE = IllegalStateException.class;
    static final Class<NoSuchElementException> NOTHING = NoSuchElementException.class;
    static final Class<ArithmeticException> NO_MEAN = ArithmeticException.class;
    static final int LOWEST = Integer.MIN_VALUE;
    static final int HIGHEST = Integer.MAX_VALUE;

    interface Maker {
        PaperStorm make();
    }

    interface On {
        Object answer(PaperStorm storm);
    }

    private Edges() {
    }

    /** The first numbers below and above a range, and the last ones of all. */
    static int[] around(int least, int most) {
        return new int[] {least - 1, most + 1, LOWEST, HIGHEST};
    }

    /** Rows and columns just outside the sheet, those that a sum like 5 * row + column would take for a cell, and far ones. */
    static int[][] noCells() {
        return new int[][] {
            {-1, 0}, {-1, 4}, {5, 0}, {5, 4}, {0, -1}, {4, -1}, {0, 5}, {4, 5},
            {-1, 5}, {1, -5}, {5, -1}, {-1, -1}, {5, 5}, {2, -1}, {2, 5}, {-1, 2}, {5, 2},
            {LOWEST, 0}, {HIGHEST, 4}, {0, LOWEST}, {4, HIGHEST}, {LOWEST, HIGHEST}};
    }

    static Object answerOf(PaperStorm storm, On call) {
        try {
            return call.answer(storm);
        } catch (RuntimeException e) {
            return e.getClass();
        }
    }

    /** A picture of the sheet, the weather and the forecasts, by calls that change nothing. */
    static String now(PaperStorm storm) {
        StringBuilder picture = new StringBuilder();
        for (int cell = 0; cell < 25; cell++) {
            picture.append(storm.pressureAt(cell / 5, cell % 5)).append(' ');
        }
        picture.append("threshold ").append(storm.threshold()).append(" weights ");
        for (int change = 0; change < 16; change++) {
            picture.append(storm.weightOf(change / 4, change % 4));
        }
        picture.append(" weather ").append(storm.weather()).append(" day ").append(storm.day());
        int count = storm.forecastCount();
        for (int forecast = 0; forecast < count; forecast++) {
            picture.append(" says ").append(storm.weatherOf(forecast)).append(" for ").append(storm.dayOf(forecast));
        }
        picture.append(" scored ").append(storm.scoredCount()).append(" errors ").append(storm.totalError());
        picture.append(' ').append(answerOf(storm, PaperStorm::meanError));
        return picture.append(' ').append(answerOf(storm, PaperStorm::hitShare)).append('\n').toString();
    }

    static String line(PaperStorm storm) {
        StringBuilder line = new StringBuilder();
        Object sign = answerOf(storm, each -> each.lineAt(0));
        while (sign instanceof Character) {
            line.append(sign);
            int next = line.length();
            sign = answerOf(storm, each -> each.lineAt(next));
        }
        return line.toString();
    }

    /** A picture that looks at what can be undone and restored too; each look has an object of its own. */
    static String state(Maker maker) {
        StringBuilder picture = new StringBuilder();
        for (int depth = 0; depth <= 9; depth++) {
            PaperStorm storm = maker.make();
            for (int step = 0; step < depth; step++) {
                picture.append("undo ").append(answerOf(storm, PaperStorm::undo)).append(' ');
            }
            picture.append(now(storm));
        }
        PaperStorm restored = maker.make();
        picture.append("restore ").append(answerOf(restored, PaperStorm::restore)).append(' ').append(now(restored));
        return picture.append("line ").append(line(maker.make())).append('\n').toString();
    }

    static String errors(Maker maker) {
        PaperStorm storm = maker.make();
        return "error position " + answerOf(storm, PaperStorm::errorPosition)
                + " failed command " + answerOf(storm, PaperStorm::failedCommand) + "\n";
    }

    /** What the buffer holds shows in its length and in what its text does. */
    static String buffer(Maker maker) {
        PaperStorm typed = maker.make();
        PaperStorm executed = maker.make();
        return "type " + answerOf(typed, storm -> storm.type('x'))
                + " execute " + answerOf(executed, PaperStorm::execute) + " " + now(executed) + errors(() -> executed);
    }

    static String whole(Maker maker) {
        return state(maker) + errors(maker) + buffer(maker);
    }

    /** A call that is refused leaves all as it was. */
    static void refusedUnchanged(String what, Class<? extends RuntimeException> want, Maker maker, On call) {
        Checks.due(what, answerOf(maker.make(), call), want);
        dueSame(what + ": unchanged", whole(after(maker, call)), whole(maker));
    }

    /** Of two pictures that differ the first line that does is enough. */
    static void dueSame(String what, String got, String want) {
        String[] gotLines = got.split("\n");
        String[] wantLines = want.split("\n");
        for (int line = 0; line < Math.min(gotLines.length, wantLines.length); line++) {
            if (!gotLines[line].equals(wantLines[line])) {
                Checks.due(what, gotLines[line], wantLines[line]);
                return;
            }
        }
        Checks.due(what, gotLines.length, wantLines.length);
    }

    static Maker after(Maker maker, On call) {
        return () -> {
            PaperStorm storm = maker.make();
            answerOf(storm, call);
            return storm;
        };
    }

    static PaperStorm fresh() {
        return new PaperStorm();
    }

    /** Each part of this object's state is other than a new one's, and other than its snapshot's. */
    static PaperStorm busy() {
        PaperStorm storm = new PaperStorm();
        Checks.typeAll(storm, "look!");
        answerOf(storm, PaperStorm::execute);
        Checks.typeAll(storm, "look;row 7");
        answerOf(storm, PaperStorm::execute);
        storm.setPressure(4, 4, 1);
        storm.issue(2);
        storm.issue(1);
        storm.observe(2);
        storm.save();
        storm.setWeight(1, 0, 0);
        storm.setWeight(1, 2, 0);
        storm.setWeight(1, 3, 0);
        storm.observe(0);
        for (int forecast = 0; forecast < 6; forecast++) {
            storm.issue(1 + forecast % 3);
        }
        storm.setPressure(0, 2, 91);
        storm.foldColumn(1);
        storm.setThreshold(13);
        storm.setPressure(3, 3, 80);
        storm.shift('e');
        storm.setWeight(0, 3, 3);
        storm.writeRow(0);
        Checks.typeAll(storm, "threshold 9;look");
        return storm;
    }
}
