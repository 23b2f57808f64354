/** Promises 29 to 38: forecasts and their scores. */
public final class ForecastsTest {
    private static final Class<IndexOutOfBoundsException> OUTSIDE = IndexOutOfBoundsException.class;
    private static final Class<IllegalArgumentException> ILLEGAL = IllegalArgumentException.class;

    public static void main(String[] args) {
        issue();
        withdraw();
        observe();
        observeScores();
        means();
        refusedNumbers();
        Checks.finish("ForecastsTest");
    }

    /** Calm is followed by breeze, breeze by gale, gale by storm and storm by storm. */
    private static PaperStorm rising() {
        PaperStorm storm = new PaperStorm();
        for (int from = 0; from < 4; from++) {
            int to = from == 3 ? 3 : from + 1;
            storm.setWeight(from, to, 3);
            for (int other = 0; other < 4; other++) {
                if (other != to) {
                    storm.setWeight(from, other, 0);
                }
            }
        }
        return storm;
    }

    private static void dueForecast(String what, PaperStorm storm, int forecast, int day, int weather) {
        Checks.due("33 " + what, storm.dayOf(forecast), day);
        Checks.due("34 " + what, storm.weatherOf(forecast), weather);
    }

    private static void issue() {
        PaperStorm storm = rising();
        Checks.due("32 none", storm.forecastCount(), 0);
        Checks.due("29 first", storm.issue(2), 0);
        Checks.due("29 second", storm.issue(1), 1);
        Checks.due("29 third", storm.issue(3), 2);
        Checks.due("32 three", storm.forecastCount(), 3);
        dueForecast("first", storm, 0, 2, 2);
        dueForecast("second", storm, 1, 1, 1);
        dueForecast("third", storm, 2, 3, 3);
        storm.setWeight(0, 0, 3);
        storm.setWeight(0, 1, 0);
        dueForecast("stays as issued", storm, 1, 1, 1);
        Checks.due("29 fourth", storm.issue(1), 3);
        dueForecast("fourth", storm, 3, 1, 0);
        Checks.due("29 each call is a modification", storm.undo(), 7);
        Checks.due("32 undone", storm.forecastCount(), 3);
        storm.issue(1);
        storm.issue(1);
        Checks.due("29 sixth", storm.issue(1), 5);
        for (int days : new int[] {0, 4, -1, Integer.MAX_VALUE, Integer.MIN_VALUE}) {
            Checks.refused("29 days", ILLEGAL, () -> storm.issue(days));
        }
        Checks.refused("29 seventh", IllegalStateException.class, () -> storm.issue(1));
        Checks.due("32 six", storm.forecastCount(), 6);
        storm.withdraw(0);
        Checks.due("29 room again", storm.issue(3), 5);
    }

    private static void withdraw() {
        PaperStorm storm = rising();
        storm.issue(1);
        storm.issue(2);
        storm.issue(3);
        Checks.due("30 middle", storm.withdraw(1), 2);
        dueForecast("before", storm, 0, 1, 1);
        dueForecast("after", storm, 1, 3, 3);
        Checks.due("30 no score", storm.scoredCount(), 0);
        Checks.due("30 each call is a modification", storm.undo(), 7);
        dueForecast("undone", storm, 1, 2, 2);
        Checks.due("30 last", storm.withdraw(2), 2);
        Checks.due("30 first", storm.withdraw(0), 1);
        dueForecast("the one left", storm, 0, 2, 2);
        Checks.due("30 only", storm.withdraw(0), 0);
        Checks.refused("30 none", OUTSIDE, () -> storm.withdraw(0));
    }

    private static void observe() {
        PaperStorm storm = new PaperStorm();
        storm.issue(2);
        Checks.due("31 no forecast for the day", storm.observe(2), 0);
        Checks.due("31 the day", storm.day(), 1);
        Checks.due("31 the weather", storm.weather(), 2);
        Checks.due("31 the weight", storm.weightOf(0, 2), 2);
        Checks.due("31 the other way", storm.weightOf(2, 0), 1);
        Checks.due("31 the forecast for another day stays", storm.forecastCount(), 1);
        for (int time = 0; time < 3; time++) {
            storm.observe(2);
        }
        Checks.due("31 the weight ends at 3", storm.weightOf(2, 2), 3);
        for (int weather : new int[] {-1, 4, Integer.MAX_VALUE, Integer.MIN_VALUE}) {
            Checks.refused("31 weather", ILLEGAL, () -> storm.observe(weather));
        }
        Checks.due("31 a refused call changes nothing", storm.day(), 4);
        Checks.due("31 each call is a modification", storm.undo(), 4);
        storm.setWeight(2, 3, 0);
        storm.observe(3);
        Checks.due("31 the weight from 0", storm.weightOf(2, 3), 1);
    }

    private static void observeScores() {
        PaperStorm storm = rising();
        storm.issue(3);
        storm.issue(1);
        storm.issue(2);
        storm.issue(1);
        storm.issue(3);
        storm.issue(1);
        Checks.due("31 the errors of three", storm.observe(3), 6);
        Checks.due("32 three left", storm.forecastCount(), 3);
        dueForecast("moved", storm, 0, 3, 3);
        dueForecast("moved", storm, 1, 2, 2);
        dueForecast("moved", storm, 2, 3, 3);
        Checks.due("35 three", storm.scoredCount(), 3);
        Checks.due("36 six", storm.totalError(), 6);
        Checks.due("31 below the forecast", storm.observe(0), 2);
        Checks.due("31 hits", storm.observe(3), 0);
        Checks.due("32 none left", storm.forecastCount(), 0);
        Checks.due("35 six", storm.scoredCount(), 6);
        Checks.due("36 eight", storm.totalError(), 8);
        Checks.due("37 mean", storm.meanError(), 8.0 / 6.0);
        Checks.due("38 share", storm.hitShare(), 2.0f / 6.0f);
        storm.undo();
        Checks.due("35 undone", storm.scoredCount(), 4);
        Checks.due("38 undone", storm.hitShare(), 0.0f);
        storm.undo();
        Checks.due("36 undone", storm.totalError(), 6);
    }

    private static void means() {
        PaperStorm storm = new PaperStorm();
        Checks.due("35 none", storm.scoredCount(), 0);
        Checks.due("36 none", storm.totalError(), 0);
        Checks.refused("37 none", ArithmeticException.class, () -> storm.meanError());
        Checks.refused("38 none", ArithmeticException.class, () -> storm.hitShare());
        storm.issue(1);
        Checks.refused("37 issued alone", ArithmeticException.class, () -> storm.meanError());
        Checks.refused("38 issued alone", ArithmeticException.class, () -> storm.hitShare());
        storm.observe(0);
        Checks.due("37 one hit", storm.meanError(), 0.0);
        Checks.due("38 one hit", storm.hitShare(), 1.0f);
        storm.issue(1);
        storm.issue(1);
        storm.observe(2);
        Checks.due("37 a third and another", storm.meanError(), 4.0 / 3.0);
        Checks.due("38 a third", storm.hitShare(), 1.0f / 3.0f);
    }

    private static void refusedNumbers() {
        PaperStorm storm = new PaperStorm();
        storm.issue(1);
        storm.issue(2);
        for (int forecast : new int[] {-1, 2, 5, 6, Integer.MAX_VALUE, Integer.MIN_VALUE}) {
            Checks.refused("30 forecast", OUTSIDE, () -> storm.withdraw(forecast));
            Checks.refused("33 forecast", OUTSIDE, () -> storm.dayOf(forecast));
            Checks.refused("34 forecast", OUTSIDE, () -> storm.weatherOf(forecast));
        }
        Checks.due("32 refused calls change nothing", storm.forecastCount(), 2);
    }
}
