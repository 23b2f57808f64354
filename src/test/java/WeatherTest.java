/** Promises 18 to 28: weather and chances. */
public final class WeatherTest {
    private static final Class<IllegalArgumentException> ILLEGAL = IllegalArgumentException.class;
    private static final int[] NO_WEATHERS = {-1, 4, Integer.MAX_VALUE, Integer.MIN_VALUE};

    public static void main(String[] args) {
        setWeight();
        weightOf();
        weatherAndDay();
        chancesOfToday();
        chances();
        bigChances();
        chancesRefused();
        sequenceCount();
        likeliest();
        shownWeather();
        Checks.finish("WeatherTest");
    }

    private static void setWeight() {
        PaperStorm storm = new PaperStorm();
        Checks.due("18 first", storm.setWeight(2, 3, 3), 1);
        Checks.due("18 again", storm.setWeight(2, 3, 0), 3);
        Checks.due("18 down", storm.setWeight(2, 0, 0), 1);
        Checks.due("18 down", storm.setWeight(2, 1, 0), 1);
        Checks.refused("18 none left", IllegalStateException.class, () -> storm.setWeight(2, 2, 0));
        Checks.due("18 the last one stays", storm.weightOf(2, 2), 1);
        Checks.due("18 a 0 stays 0", storm.setWeight(2, 1, 0), 0);
        Checks.due("18 five modifications so far", storm.undo(), 4);
        Checks.due("18 another weather", storm.setWeight(3, 2, 0), 1);
        for (int none : NO_WEATHERS) {
            Checks.refused("18 from", ILLEGAL, () -> storm.setWeight(none, 0, 1));
            Checks.refused("18 to", ILLEGAL, () -> storm.setWeight(0, none, 1));
            Checks.refused("18 weight", ILLEGAL, () -> storm.setWeight(0, 0, none));
        }
        Checks.refused("18 arguments first", ILLEGAL, () -> storm.setWeight(2, 4, 0));
        Checks.due("18 refused calls change nothing", storm.weightOf(0, 0), 1);
    }

    private static void weightOf() {
        PaperStorm storm = new PaperStorm();
        storm.setWeight(1, 2, 3);
        Checks.due("19 set", storm.weightOf(1, 2), 3);
        Checks.due("19 the other way", storm.weightOf(2, 1), 1);
        for (int none : NO_WEATHERS) {
            Checks.refused("19 from", ILLEGAL, () -> storm.weightOf(none, 0));
            Checks.refused("19 to", ILLEGAL, () -> storm.weightOf(0, none));
        }
    }

    private static void weatherAndDay() {
        PaperStorm storm = new PaperStorm();
        storm.observe(3);
        Checks.due("20 observed", storm.weather(), 3);
        Checks.due("21 observed", storm.day(), 1);
        storm.observe(3);
        storm.observe(1);
        Checks.due("20 later", storm.weather(), 1);
        Checks.due("21 later", storm.day(), 3);
    }

    private static void chancesOfToday() {
        PaperStorm storm = new PaperStorm();
        storm.observe(2);
        for (int weather = 0; weather < 4; weather++) {
            dueChance("today", storm, 0, weather, weather == 2 ? 1 : 0, 1);
        }
    }

    private static void chances() {
        PaperStorm storm = new PaperStorm();
        storm.setWeight(0, 0, 2);
        storm.setWeight(0, 3, 0);
        dueChance("one day", storm, 1, 0, 1, 2);
        dueChance("one day", storm, 1, 1, 1, 4);
        dueChance("one day", storm, 1, 3, 0, 1);
        // 1/2 * 1/2 + 1/4 * 1/4 + 1/4 * 1/4, and so on.
        dueChance("two days", storm, 2, 0, 3, 8);
        dueChance("two days", storm, 2, 1, 1, 4);
        dueChance("two days", storm, 2, 2, 1, 4);
        dueChance("two days", storm, 2, 3, 1, 8);
        dueChance("three days", storm, 3, 0, 11, 32);
        dueChance("three days", storm, 3, 3, 5, 32);
        for (int to = 1; to < 4; to++) {
            storm.setWeight(0, to, 0);
        }
        dueChance("sure", storm, 3, 0, 1, 1);
        dueChance("impossible", storm, 3, 1, 0, 1);
    }

    // The sums of the weights are 11, 9, 10 and 7, whose fractions share least.
    private static void bigChances() {
        PaperStorm storm = new PaperStorm();
        int[][] weights = {{3, 2, 3, 3}, {1, 2, 3, 3}, {3, 3, 1, 3}, {0, 1, 3, 3}};
        for (int from = 0; from < 4; from++) {
            for (int to = 0; to < 4; to++) {
                storm.setWeight(from, to, weights[from][to]);
            }
        }
        dueChance("big", storm, 3, 0, 1673989, 10781100);
        dueChance("big", storm, 3, 1, 111108071, 528273900);
        dueChance("big", storm, 3, 2, 50941279, 176091300);
        dueChance("big", storm, 3, 3, 60772177, 176091300);
        Checks.due("42 big", storm.isConsistent(), true);
    }

    private static void dueChance(String what, PaperStorm storm, int days, int weather, long over, long under) {
        Checks.due("22 " + what, storm.chanceNumerator(days, weather), over);
        Checks.due("23 " + what, storm.chanceDenominator(days, weather), under);
        Checks.due("24 " + what, storm.numeratorByBranches(days, weather), over);
        Checks.due("25 " + what, storm.denominatorByBranches(days, weather), under);
    }

    private static void chancesRefused() {
        PaperStorm storm = new PaperStorm();
        for (int none : NO_WEATHERS) {
            dueRefused(storm, 0, none);
            dueRefused(storm, none, 0);
        }
    }

    private static void dueRefused(PaperStorm storm, int days, int weather) {
        Checks.refused("22", ILLEGAL, () -> storm.chanceNumerator(days, weather));
        Checks.refused("23", ILLEGAL, () -> storm.chanceDenominator(days, weather));
        Checks.refused("24", ILLEGAL, () -> storm.numeratorByBranches(days, weather));
        Checks.refused("25", ILLEGAL, () -> storm.denominatorByBranches(days, weather));
        Checks.refused("26", ILLEGAL, () -> storm.sequenceCount(days, weather));
    }

    private static void sequenceCount() {
        PaperStorm storm = new PaperStorm();
        Checks.due("26 today", storm.sequenceCount(0, 0), 1);
        Checks.due("26 not today", storm.sequenceCount(0, 1), 0);
        Checks.due("26 one day", storm.sequenceCount(1, 3), 1);
        Checks.due("26 two days", storm.sequenceCount(2, 3), 4);
        Checks.due("26 three days", storm.sequenceCount(3, 3), 16);
        storm.setWeight(0, 1, 0);
        storm.setWeight(0, 2, 3);
        Checks.due("26 a change without a chance", storm.sequenceCount(1, 1), 0);
        Checks.due("26 weights do not count", storm.sequenceCount(1, 2), 1);
        Checks.due("26 two days, less one", storm.sequenceCount(2, 3), 3);
        Checks.due("26 two days, less two", storm.sequenceCount(2, 1), 2);
    }

    private static void likeliest() {
        PaperStorm storm = new PaperStorm();
        Checks.due("27 tie", storm.likeliest(1), 0);
        storm.setWeight(0, 0, 0);
        Checks.due("27 tie of the others", storm.likeliest(1), 1);
        storm.setWeight(0, 3, 2);
        Checks.due("27 the last one", storm.likeliest(1), 3);
        storm.setWeight(0, 2, 2);
        Checks.due("27 tie again", storm.likeliest(1), 2);
        storm.observe(3);
        Checks.due("27 today", storm.likeliest(0), 3);
        storm.setWeight(3, 2, 3);
        storm.setWeight(2, 1, 3);
        storm.setWeight(1, 1, 3);
        Checks.due("27 one day", storm.likeliest(1), 2);
        Checks.due("27 two days", storm.likeliest(2), 1);
        for (int none : NO_WEATHERS) {
            Checks.refused("27 days", ILLEGAL, () -> storm.likeliest(none));
        }
    }

    // Each cell of 99 in the corners and the like is a region of its own beside the one of the rest.
    private static void shownWeather() {
        PaperStorm storm = new PaperStorm();
        int[] cells = {0, 2, 4, 10, 12, 14, 20, 22, 24};
        int[] shown = {1, 1, 2, 2, 2, 2, 3, 3, 3};
        Checks.due("28 one region", storm.shownWeather(), 0);
        for (int index = 0; index < cells.length; index++) {
            storm.setPressure(cells[index] / 5, cells[index] % 5, 99);
            Checks.due("28 regions", storm.regionCount(), index + 2);
            Checks.due("28 shown", storm.shownWeather(), shown[index]);
        }
        Checks.due("28 the present weather stays", storm.weather(), 0);
    }
}
