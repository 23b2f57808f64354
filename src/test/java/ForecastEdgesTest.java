/** The boundary cases of "Days and forecasts", promises 29 to 38. */
public final class ForecastEdgesTest {
    public static void main(String[] args) {
        daysAhead();
        sixForecasts();
        withdrawEach();
        scoreSome();
        scoreOnTheDayAlone();
        errors();
        weightsGrow();
        means();
        scoresUndone();
        Checks.finish("ForecastEdgesTest");
    }

    /** From each weather the change to the given one is sure. */
    private static PaperStorm always(int weather) {
        int[][] weights = new int[4][4];
        for (int[] row : weights) {
            row[weather] = 1;
        }
        return WeatherEdgesTest.weighted(weights);
    }

    /** The forecasts of a storm whose weathers rise day by day, as their days ahead. */
    private static PaperStorm rising(int... days) {
        PaperStorm storm = WeatherEdgesTest.weighted(new int[][] {{0, 1, 0, 0}, {0, 0, 1, 0}, {0, 0, 0, 1}, {0, 0, 0, 1}});
        for (int ahead : days) {
            storm.issue(ahead);
        }
        return storm;
    }

    private static String forecasts(PaperStorm storm) {
        StringBuilder all = new StringBuilder();
        for (int forecast = 0; forecast < storm.forecastCount(); forecast++) {
            all.append(storm.dayOf(forecast)).append(':').append(storm.weatherOf(forecast)).append(' ');
        }
        return all.toString();
    }

    /** "the number of days, 1 to 3"; 0 and 4 are in RefusedEdgesTest. */
    private static void daysAhead() {
        PaperStorm storm = rising();
        for (int days = 1; days <= 3; days++) {
            Checks.due("29 the number", storm.issue(days), days - 1);
            Checks.due("33 days ahead", storm.dayOf(days - 1), days);
            Checks.due("34 the likeliest in these days", storm.weatherOf(days - 1), days);
        }
        storm.observe(3);
        Checks.due("29 later", storm.issue(3), 2);
        Checks.due("33 later", storm.dayOf(2), 4);
        Checks.due("34 later", storm.weatherOf(2), 3);
    }

    /** "There are at most 6 forecasts, numbered from 0 in the order in which they were issued" */
    private static void sixForecasts() {
        PaperStorm storm = rising();
        for (int forecast = 0; forecast < 6; forecast++) {
            Checks.due("32 so far", storm.forecastCount(), forecast);
            Checks.due("29 the number", storm.issue(3 - forecast % 3), forecast);
        }
        Checks.due("32 six", storm.forecastCount(), 6);
        Checks.due("33 in their order", forecasts(storm), "3:3 2:2 1:1 3:3 2:2 1:1 ");
        Checks.refused("29 a seventh", Edges.STATE, () -> storm.issue(1));
        storm.withdraw(5);
        Checks.due("29 room after withdrawing", storm.issue(1), 5);
        Checks.refused("29 a seventh", Edges.STATE, () -> storm.issue(3));
        storm.observe(1);
        Checks.due("29 room after scoring", storm.issue(3), 4);
        Checks.due("29 room after scoring", storm.issue(2), 5);
        Checks.refused("29 a seventh", Edges.STATE, () -> storm.issue(2));
        storm.undo();
        Checks.due("29 room after undo", storm.issue(1), 5);
        Checks.due("33 in their order", forecasts(storm), "3:3 2:2 3:3 2:2 4:3 2:2 ");
    }

    /** "the numbers of the later ones decrease by 1" */
    private static void withdrawEach() {
        String[] left = {
            "2:2 3:3 1:1 2:2 3:3 ", "1:1 3:3 1:1 2:2 3:3 ", "1:1 2:2 1:1 2:2 3:3 ",
            "1:1 2:2 3:3 2:2 3:3 ", "1:1 2:2 3:3 1:1 3:3 ", "1:1 2:2 3:3 1:1 2:2 "};
        for (int forecast = 0; forecast < 6; forecast++) {
            PaperStorm storm = rising(1, 2, 3, 1, 2, 3);
            Checks.due("30 left", storm.withdraw(forecast), 5);
            Checks.due("32 left", storm.forecastCount(), 5);
            Checks.due("30 the later ones move", forecasts(storm), left[forecast]);
            Checks.refused("33 the last number is gone", Edges.OUTSIDE, () -> storm.dayOf(5));
            Checks.refused("34 the last number is gone", Edges.OUTSIDE, () -> storm.weatherOf(5));
            Checks.refused("30 the last number is gone", Edges.OUTSIDE, () -> storm.withdraw(5));
            Checks.due("35 not scored", storm.scoredCount(), 0);
            Checks.due("36 not scored", storm.totalError(), 0);
        }
        PaperStorm storm = rising(1, 2, 3, 1, 2, 3);
        for (int count = 5; count >= 0; count--) {
            Checks.due("30 down to none", storm.withdraw(0), count);
        }
        Checks.due("31 a withdrawn one is not scored", storm.observe(3), 0);
        Checks.due("35 a withdrawn one is not scored", storm.scoredCount(), 0);
        Checks.due("29 the numbers begin anew", storm.issue(1), 0);
    }

    private static void scoreSome() {
        dueScored(new int[] {}, 0, "");
        dueScored(new int[] {2, 3, 2}, 0, "2:2 3:3 2:2 ");
        dueScored(new int[] {1}, 1, "");
        dueScored(new int[] {1, 2, 3}, 1, "2:2 3:3 ");
        dueScored(new int[] {2, 3, 1}, 1, "2:2 3:3 ");
        dueScored(new int[] {2, 1, 3}, 1, "2:2 3:3 ");
        dueScored(new int[] {1, 1, 1, 1, 1, 1}, 6, "");
        dueScored(new int[] {1, 3, 1, 2, 1, 3}, 3, "3:3 2:2 3:3 ");
        dueScored(new int[] {3, 1, 1, 2, 3, 1}, 3, "3:3 2:2 3:3 ");
    }

    /** The forecasts of 1 day all say breeze; calm comes. */
    private static void dueScored(int[] days, int scored, String left) {
        PaperStorm storm = rising(days);
        Checks.due("31 the sum of the errors", storm.observe(0), scored);
        Checks.due("35 scored", storm.scoredCount(), scored);
        Checks.due("36 errors", storm.totalError(), scored);
        Checks.due("32 left", storm.forecastCount(), days.length - scored);
        Checks.due("31 the later ones move", forecasts(storm), left);
    }

    private static void scoreOnTheDayAlone() {
        for (int days = 1; days <= 3; days++) {
            PaperStorm storm = always(3);
            storm.issue(days);
            for (int day = 1; day <= 4; day++) {
                Checks.due("31 day " + day, storm.observe(0), day == days ? 3 : 0);
                Checks.due("32 day " + day, storm.forecastCount(), day < days ? 1 : 0);
                Checks.due("35 day " + day, storm.scoredCount(), day < days ? 0 : 1);
                Checks.due("36 day " + day, storm.totalError(), day < days ? 0 : 3);
            }
        }
    }

    /** "the absolute difference between the numbers of the weather that it says and the observed one" */
    private static void errors() {
        for (int said = 0; said < 4; said++) {
            for (int observed = 0; observed < 4; observed++) {
                PaperStorm storm = always(said);
                storm.issue(1);
                storm.issue(1);
                int error = said > observed ? said - observed : observed - said;
                Checks.due("31 two of " + said + " and " + observed, storm.observe(observed), 2 * error);
                Checks.due("36 two of " + said + " and " + observed, storm.totalError(), 2 * error);
                Checks.due("37 two of " + said + " and " + observed, storm.meanError(), (double) error);
                Checks.due("38 two of " + said + " and " + observed, storm.hitShare(), error == 0 ? 1.0f : 0.0f);
            }
        }
        PaperStorm storm = always(3);
        for (int forecast = 0; forecast < 6; forecast++) {
            storm.issue(1);
        }
        Checks.due("31 the greatest sum", storm.observe(0), 18);
    }

    /** "the weight of the change from the present weather to the observed one increases by 1 if it is less than 3" */
    private static void weightsGrow() {
        for (int change = 0; change < 16; change++) {
            int from = change / 4;
            int to = change % 4;
            for (int weight = 0; weight <= 3; weight++) {
                PaperStorm storm = new PaperStorm();
                storm.observe(from);
                storm.setWeight(from, to, weight);
                int[] before = new int[16];
                for (int other = 0; other < 16; other++) {
                    before[other] = storm.weightOf(other / 4, other % 4);
                }
                Checks.due("31 no forecast", storm.observe(to), 0);
                for (int other = 0; other < 16; other++) {
                    int want = other == change ? Math.min(weight + 1, 3) : before[other];
                    Checks.due("31 weight " + other + " after " + change, storm.weightOf(other / 4, other % 4), want);
                }
                Checks.due("20 the present one", storm.weather(), to);
                Checks.due("21 two days", storm.day(), 2);
                storm.undo();
                Checks.due("47 the weight undone", storm.weightOf(from, to), weight);
                Checks.due("47 the weather undone", storm.weather(), from);
            }
        }
    }

    /** One scored forecast is enough for a mean; none is in RefusedEdgesTest. */
    private static void means() {
        PaperStorm storm = always(1);
        storm.issue(1);
        storm.observe(1);
        Checks.due("37 the least", storm.meanError(), 0.0);
        Checks.due("38 the greatest", storm.hitShare(), 1.0f);
        storm.setWeight(1, 1, 3);
        storm.issue(1);
        storm.issue(1);
        storm.observe(3);
        Checks.due("36 two of 2", storm.totalError(), 4);
        Checks.due("37 in thirds", storm.meanError(), 4.0 / 3.0);
        Checks.due("38 in thirds", storm.hitShare(), 1.0f / 3.0f);
        PaperStorm worst = always(3);
        worst.issue(1);
        worst.observe(0);
        Checks.due("37 the greatest", worst.meanError(), 3.0);
        Checks.due("38 the least", worst.hitShare(), 0.0f);
        PaperStorm sevenths = always(0);
        for (int forecast = 0; forecast < 6; forecast++) {
            sevenths.issue(1);
        }
        sevenths.observe(0);
        sevenths.issue(1);
        sevenths.observe(1);
        Checks.due("37 sevenths", sevenths.meanError(), 1.0 / 7.0);
        Checks.due("38 sevenths", sevenths.hitShare(), 6.0f / 7.0f);
    }

    private static void scoresUndone() {
        PaperStorm storm = always(2);
        storm.issue(1);
        storm.save();
        storm.observe(2);
        Checks.due("38 a hit", storm.hitShare(), 1.0f);
        storm.undo();
        Checks.refused("37 undone to none", Edges.NO_MEAN, () -> storm.meanError());
        Checks.refused("38 undone to none", Edges.NO_MEAN, () -> storm.hitShare());
        Checks.due("32 undone", storm.forecastCount(), 1);
        storm.observe(0);
        Checks.due("36 another weather", storm.totalError(), 2);
        Checks.due("38 the hit is undone too", storm.hitShare(), 0.0f);
        storm.restore();
        Checks.refused("37 restored to none", Edges.NO_MEAN, () -> storm.meanError());
        Checks.refused("38 restored to none", Edges.NO_MEAN, () -> storm.hitShare());
        storm.observe(2);
        Checks.due("38 the hit again", storm.hitShare(), 1.0f);
    }
}
