/** The boundary cases of "Undo", promises 47 to 49, and of the 512 calls of an object. */
public final class UndoEdgesTest {
    private static final String[] NAMES = {
        "setPressure", "foldRow", "foldColumn", "shift", "setThreshold", "setWeight", "issue", "withdraw", "observe",
        "execute"};
    private static final Edges.On[] MODIFICATIONS = {
        storm -> storm.setPressure(2, 2, 77), storm -> storm.foldRow(2), storm -> storm.foldColumn(1),
        storm -> storm.shift('w'), storm -> storm.setThreshold(31), storm -> storm.setWeight(2, 3, 3),
        storm -> storm.issue(2), storm -> storm.withdraw(0), storm -> storm.observe(3),
        storm -> Checks.run(storm, "set 3 3 1;observe 2;issue 3")};
    private static final Edges.On[] OTHERS = {
        storm -> storm.pressureAt(0, 0), PaperStorm::totalPressure, PaperStorm::threshold,
        storm -> storm.isFrontRight(0, 0), storm -> storm.isFrontBelow(0, 0), PaperStorm::frontCount,
        PaperStorm::steepest, PaperStorm::regionCount, PaperStorm::regionCountByUnion, storm -> storm.regionSize(0, 0),
        storm -> storm.isSameRegion(0, 0, 4, 4), storm -> storm.weightOf(0, 0), PaperStorm::weather, PaperStorm::day,
        storm -> storm.chanceNumerator(3, 0), storm -> storm.chanceDenominator(3, 0),
        storm -> storm.numeratorByBranches(3, 0), storm -> storm.denominatorByBranches(3, 0),
        storm -> storm.sequenceCount(3, 0), storm -> storm.likeliest(3), PaperStorm::shownWeather,
        PaperStorm::forecastCount, storm -> storm.dayOf(0), storm -> storm.weatherOf(0), PaperStorm::scoredCount,
        PaperStorm::totalError, PaperStorm::meanError, PaperStorm::hitShare, storm -> storm.writeRow(0),
        storm -> storm.writeChances(0), storm -> storm.lineAt(0), PaperStorm::isConsistent, storm -> storm.type('x'),
        PaperStorm::errorPosition, PaperStorm::failedCommand, PaperStorm::save};

    public static void main(String[] args) {
        eachModification();
        othersAreNone();
        theLastEight();
        eightOfEachKind();
        afterUndo();
        notUndone();
        savedDays();
        theSnapshotStays();
        restoredWhole();
        nothingToUndoAfterRestore();
        callsOfAnObject();
        Checks.finish("UndoEdgesTest");
    }

    private static PaperStorm withPast() {
        PaperStorm storm = new PaperStorm();
        storm.setPressure(0, 0, 90);
        storm.setPressure(3, 4, 5);
        storm.issue(1);
        storm.issue(2);
        storm.issue(3);
        storm.observe(1);
        storm.save();
        storm.restore();
        return storm;
    }

    /** Each successful call is one step, and undoing it brings all back. */
    private static void eachModification() {
        String before = Edges.now(withPast());
        for (int index = 0; index < NAMES.length; index++) {
            PaperStorm storm = withPast();
            Checks.refused("47 nothing before " + NAMES[index], Edges.STATE, storm::undo);
            MODIFICATIONS[index].answer(storm);
            Checks.due("47 changed by " + NAMES[index], Edges.now(storm).equals(before), false);
            Checks.due("47 undone: " + NAMES[index], storm.undo(), 0);
            Checks.due("47 as before " + NAMES[index], Edges.now(storm), before);
            Checks.refused("47 one step alone: " + NAMES[index], Edges.STATE, storm::undo);
        }
    }

    /** All other calls, and the refused ones, are no steps. */
    private static void othersAreNone() {
        for (int index = 0; index < OTHERS.length; index++) {
            PaperStorm storm = withPast();
            Edges.answerOf(storm, OTHERS[index]);
            Checks.refused("47 no step: call " + index, Edges.STATE, storm::undo);
            storm.setThreshold(7);
            Edges.answerOf(storm, OTHERS[index]);
            Checks.due("47 no step after one: call " + index, storm.undo(), 0);
            Checks.due("47 the step before: call " + index, storm.threshold(), 20);
        }
        PaperStorm storm = withPast();
        storm.setThreshold(7);
        Edges.answerOf(storm, PaperStorm::execute);
        Checks.typeAll(storm, "threshold 8;row 0");
        Edges.answerOf(storm, PaperStorm::execute);
        Edges.answerOf(storm, each -> each.setThreshold(51));
        Checks.due("47 refused calls are no steps", storm.undo(), 0);
        Checks.due("47 the step before", storm.threshold(), 20);
    }

    /** "The last 8 successful modifications can be undone": 7, 8, 9 and more of them. */
    private static void theLastEight() {
        for (int made = 0; made <= 40; made++) {
            PaperStorm storm = new PaperStorm();
            for (int threshold = 1; threshold <= made; threshold++) {
                storm.setThreshold(threshold);
            }
            int undone = Math.min(made, 8);
            for (int left = undone - 1; left >= 0; left--) {
                Checks.due("47 left of " + made, storm.undo(), left);
                int threshold = made - (undone - left);
                Checks.due("47 back in " + made, storm.threshold(), threshold == 0 ? 20 : threshold);
            }
            Checks.refused("47 no more of " + made, Edges.STATE, storm::undo);
            Checks.due("47 unchanged after " + made, storm.threshold(), made <= 8 ? 20 : made - 8);
        }
    }

    private static void eightOfEachKind() {
        Edges.On[] changes = {
            storm -> storm.setPressure(1, 1, storm.pressureAt(1, 1) - 1), storm -> storm.shift('e'),
            storm -> storm.observe(2), storm -> Checks.run(storm, "shift n;look")};
        for (Edges.On change : changes) {
            for (int steps = 0; steps <= 8; steps++) {
                dueBack(change, steps, changed(change, 12 - steps));
            }
        }
        Edges.On twice = storm -> storm.issue(1 + storm.day() % 3) + storm.withdraw(0);
        for (int pairs = 0; pairs <= 4; pairs++) {
            dueBack(twice, 2 * pairs, changed(twice, 12 - pairs));
        }
    }

    private static PaperStorm changed(Edges.On change, int times) {
        PaperStorm storm = withPast();
        for (int time = 0; time < times; time++) {
            change.answer(storm);
        }
        return storm;
    }

    private static void dueBack(Edges.On change, int steps, PaperStorm want) {
        PaperStorm storm = changed(change, 12);
        for (int step = 1; step <= steps; step++) {
            Checks.due("47 left", storm.undo(), 8 - step);
        }
        Checks.due("47 back by " + steps, Edges.now(storm), Edges.now(want));
    }

    /** What was undone cannot be undone again, and a new modification takes its place. */
    private static void afterUndo() {
        PaperStorm storm = new PaperStorm();
        for (int threshold = 1; threshold <= 10; threshold++) {
            storm.setThreshold(threshold);
        }
        Checks.due("47 to 9", storm.undo(), 7);
        Checks.due("47 to 8", storm.undo(), 6);
        storm.setThreshold(41);
        storm.setThreshold(42);
        storm.setThreshold(43);
        int[] back = {42, 41, 8, 7, 6, 5, 4, 3};
        for (int step = 0; step < 8; step++) {
            Checks.due("47 left", storm.undo(), 7 - step);
            Checks.due("47 back", storm.threshold(), back[step]);
        }
        Checks.refused("47 no ninth", Edges.STATE, storm::undo);
        storm.setThreshold(44);
        Checks.due("47 one again", storm.undo(), 0);
        Checks.due("47 back again", storm.threshold(), 3);
    }

    /** "The text buffer, the error position, the index of the failed command and the line are not part of the state" */
    private static void notUndone() {
        Edges.On[] calls = {
            PaperStorm::undo, PaperStorm::restore, PaperStorm::save, storm -> storm.undo() + storm.undo()};
        for (Edges.On call : calls) {
            Edges.Maker after = Edges.after(Edges::busy, call);
            Checks.due("45, 46 stay", Edges.errors(after), Edges.errors(Edges::busy));
            Checks.due("41 stays", Edges.line(after.make()), Edges.line(Edges.busy()));
            Checks.due("43 stays", after.make().type('x'), 17);
            Checks.due("44 the text stays", after.make().execute(), 2);
        }
        // A text that was executed does not come back, and what was typed after a modification does not go.
        PaperStorm storm = new PaperStorm();
        storm.save();
        Checks.run(storm, "look");
        storm.undo();
        Checks.due("43 an executed text does not come back", storm.type('l'), 1);
        storm.setThreshold(9);
        storm.type('o');
        storm.undo();
        Checks.due("43 what was typed stays", storm.type('o'), 3);
        storm.restore();
        Checks.due("43 what was typed stays", storm.type('k'), 4);
        Checks.due("44 what was typed stays", storm.execute(), 1);
    }

    /** Saving and restoring answer the present day. */
    private static void savedDays() {
        PaperStorm storm = new PaperStorm();
        Checks.due("48 day 0", storm.save(), 0);
        Checks.due("49 day 0", storm.restore(), 0);
        for (int day = 1; day <= 5; day++) {
            storm.observe(day % 4);
            Checks.due("48 the present day", storm.save(), day);
            storm.observe(0);
            Checks.due("49 the day of the snapshot", storm.restore(), day);
            Checks.due("21 the day of the snapshot", storm.day(), day);
        }
        Checks.due("48 a snapshot of what was restored", storm.save(), 5);
    }

    /** "Saves the state as a snapshot, which replaces an earlier snapshot", "Restores the snapshot, which is kept." */
    private static void theSnapshotStays() {
        String saved = Edges.now(withPast());
        for (int index = 0; index < NAMES.length; index++) {
            PaperStorm storm = withPast();
            for (int time = 0; time < 3; time++) {
                MODIFICATIONS[index].answer(storm);
                MODIFICATIONS[(index + 1) % NAMES.length].answer(storm);
                Checks.due("49 the day", storm.restore(), 1);
                Checks.due("49 kept after " + NAMES[index], Edges.now(storm), saved);
            }
            MODIFICATIONS[index].answer(storm);
            String later = Edges.now(storm);
            storm.save();
            storm.undo();
            Checks.due("47 undo after saving", Edges.now(storm), saved);
            storm.restore();
            Checks.due("48 the later snapshot, which undo leaves", Edges.now(storm), later);
        }
    }

    private static void restoredWhole() {
        PaperStorm storm = Edges.busy();
        Checks.due("49 the day", storm.restore(), 1);
        StringBuilder want = new StringBuilder();
        for (int cell = 0; cell < 24; cell++) {
            want.append("50 ");
        }
        want.append("1 threshold 20 weights 1121111111111111 weather 2 day 1 says 0 for 2 scored 1 errors 2 2.0 0.0\n");
        Checks.due("49 all of the state", Edges.now(storm), want.toString());
    }

    /** "Afterwards nothing can be undone." */
    private static void nothingToUndoAfterRestore() {
        for (int made = 0; made <= 9; made++) {
            PaperStorm storm = withPast();
            for (int time = 0; time < made; time++) {
                storm.setThreshold(1 + time);
            }
            storm.restore();
            Checks.refused("49 nothing after " + made, Edges.STATE, storm::undo);
            for (int time = 0; time < 9; time++) {
                storm.setThreshold(30 + time);
            }
            for (int left = 7; left >= 0; left--) {
                Checks.due("47 eight again", storm.undo(), left);
                Checks.due("47 eight again", storm.threshold(), 30 + left);
            }
            Checks.refused("47 the ninth is gone", Edges.STATE, storm::undo);
        }
    }

    /** "An object is used for at most 512 calls": each of them answers. */
    private static void callsOfAnObject() {
        PaperStorm storm = new PaperStorm();
        int previous = 20;
        for (int call = 1; call <= 512; call++) {
            int threshold = 1 + call % 50;
            Checks.due("8 call " + call, storm.setThreshold(threshold), previous);
            previous = threshold;
        }
        PaperStorm days = new PaperStorm();
        for (int call = 1; call <= 511; call++) {
            Checks.due("31 call " + call, days.observe(call % 4), 0);
        }
        Checks.due("21 the 512th call", days.day(), 511);
        PaperStorm scores = new PaperStorm();
        for (int call = 1; call <= 510; call += 2) {
            scores.issue(1);
            scores.observe(3);
        }
        Checks.due("35 the 511th call", scores.scoredCount(), 255);
        Checks.due("36 the 512th call", scores.totalError() >= 3, true);
    }
}
