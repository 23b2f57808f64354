/** Promises 47 to 49: undo and snapshots. */
public final class UndoTest {
    private static final Class<IllegalStateException> STATE = IllegalStateException.class;

    public static void main(String[] args) {
        undoEachKind();
        undoEight();
        save();
        restore();
        Checks.finish("UndoTest");
    }

    private static void undoEachKind() {
        PaperStorm storm = new PaperStorm();
        storm.setPressure(0, 1, 90);
        storm.foldRow(2);
        storm.foldColumn(2);
        storm.shift('e');
        storm.setThreshold(7);
        storm.setWeight(0, 2, 3);
        storm.issue(1);
        storm.observe(3);
        Checks.due("47 observe", storm.undo(), 7);
        Checks.due("47 the day", storm.day(), 0);
        Checks.due("47 the weather", storm.weather(), 0);
        Checks.due("47 the weight of the change", storm.weightOf(0, 3), 1);
        Checks.due("47 the forecast", storm.weatherOf(0), 2);
        Checks.due("47 the score", storm.scoredCount() + storm.totalError(), 0);
        Checks.due("47 issue", storm.undo(), 6);
        Checks.due("47 no forecast", storm.forecastCount(), 0);
        Checks.due("47 setWeight", storm.undo(), 5);
        Checks.due("47 the weight", storm.weightOf(0, 2), 1);
        Checks.due("47 setThreshold", storm.undo(), 4);
        Checks.due("47 the threshold", storm.threshold(), 20);
        Checks.due("47 before shift", storm.pressureAt(0, 2), 60);
        Checks.due("47 shift", storm.undo(), 3);
        Checks.due("47 shifted back", storm.pressureAt(0, 1), 60);
        Checks.due("47 foldColumn", storm.undo(), 2);
        Checks.due("47 unfolded", storm.pressureAt(0, 1), 70);
        Checks.due("47 foldRow", storm.undo(), 1);
        Checks.due("47 unfolded again", storm.pressureAt(0, 1), 90);
        Checks.due("47 setPressure", storm.undo(), 0);
        Checks.due("47 as new", storm.pressureAt(0, 1), 50);
        Checks.refused("47 none left", STATE, () -> storm.undo());
        storm.issue(2);
        storm.withdraw(0);
        Checks.due("47 withdraw", storm.undo(), 1);
        Checks.due("47 the forecast again", storm.dayOf(0), 2);
    }

    private static void undoEight() {
        PaperStorm storm = new PaperStorm();
        Checks.refused("47 new", STATE, () -> storm.undo());
        for (int threshold = 1; threshold <= 12; threshold++) {
            storm.setThreshold(threshold);
        }
        storm.totalPressure();
        storm.save();
        for (int left = 7; left >= 0; left--) {
            Checks.due("47 left", storm.undo(), left);
            Checks.due("47 back", storm.threshold(), left + 4);
        }
        Checks.refused("47 no ninth", STATE, () -> storm.undo());
        Checks.due("47 a refused call changes nothing", storm.threshold(), 4);
        storm.setThreshold(30);
        storm.setThreshold(31);
        Checks.due("47 new ones", storm.undo(), 1);
        storm.setThreshold(32);
        Checks.due("47 the one undone is gone", storm.undo(), 1);
        Checks.due("47 back", storm.threshold(), 30);
        for (int threshold = 1; threshold <= 8; threshold++) {
            storm.setThreshold(threshold);
        }
        Checks.due("47 full again", storm.undo(), 7);
        storm.setThreshold(40);
        Checks.due("47 full after undo", storm.undo(), 7);
        Checks.due("47 back", storm.threshold(), 7);
    }

    private static void save() {
        PaperStorm storm = new PaperStorm();
        Checks.due("48 first day", storm.save(), 0);
        storm.observe(1);
        Checks.due("48 second day", storm.save(), 1);
        storm.setThreshold(3);
        storm.restore();
        Checks.due("48 the later snapshot", storm.day(), 1);
        Checks.due("48 replaces all", storm.threshold(), 20);
        storm.setThreshold(3);
        storm.save();
        Checks.due("48 saving is no modification", storm.undo(), 0);
        Checks.due("48 undo", storm.threshold(), 20);
        storm.restore();
        Checks.due("48 undo leaves the snapshot", storm.threshold(), 3);
    }

    private static void restore() {
        PaperStorm storm = new PaperStorm();
        Checks.refused("49 none", STATE, () -> storm.restore());
        storm.setPressure(1, 1, 9);
        storm.setThreshold(8);
        storm.issue(2);
        storm.issue(1);
        storm.observe(2);
        storm.save();
        storm.shift('n');
        storm.setWeight(2, 1, 3);
        storm.observe(3);
        storm.observe(3);
        Checks.due("49 the day", storm.restore(), 1);
        Checks.due("49 day", storm.day(), 1);
        Checks.due("49 weather", storm.weather(), 2);
        Checks.due("49 pressure", storm.pressureAt(1, 1), 9);
        Checks.due("49 threshold", storm.threshold(), 8);
        Checks.due("49 weight", storm.weightOf(2, 1), 1);
        Checks.due("49 observed weight", storm.weightOf(0, 2), 2);
        Checks.due("49 forecasts", storm.forecastCount(), 1);
        Checks.due("49 forecast", storm.dayOf(0), 2);
        Checks.due("49 scored", storm.scoredCount(), 1);
        Checks.due("49 errors", storm.totalError(), 2);
        Checks.due("49 hits", storm.hitShare(), 0.0f);
        Checks.refused("49 nothing can be undone", STATE, () -> storm.undo());
        storm.setThreshold(5);
        Checks.due("49 undo begins anew", storm.undo(), 0);
        storm.foldRow(1);
        Checks.due("49 kept", storm.restore(), 1);
        Checks.due("49 kept as it was", storm.pressureAt(1, 1), 9);
    }
}
