/** The boundary cases of "Weather", promises 18 to 27. */
public final class WeatherEdgesTest {
    // The sums of the weights are 11, 9, 10 and 7, whose fractions share least.
    private static final int[][] UNEVEN = {{3, 2, 3, 3}, {1, 2, 3, 3}, {3, 3, 1, 3}, {0, 1, 3, 3}};

    public static void main(String[] args) {
        everyWeight();
        lastWeights();
        weathersAndDays();
        today();
        sureAndImpossible();
        lowestTerms();
        sumsOfBranches();
        likeliestOfTies();
        likeliestByALittle();
        sequences();
        uneven();
        Checks.finish("WeatherEdgesTest");
    }

    static PaperStorm weighted(int[][] weights) {
        PaperStorm storm = new PaperStorm();
        for (int from = 0; from < 4; from++) {
            // The sum must never be 0 on the way.
            for (int to = 0; to < 4; to++) {
                if (weights[from][to] > 0) {
                    storm.setWeight(from, to, weights[from][to]);
                }
            }
            for (int to = 0; to < 4; to++) {
                storm.setWeight(from, to, weights[from][to]);
            }
        }
        return storm;
    }

    private static void dueChance(String what, PaperStorm storm, int days, int weather, long over, long under) {
        Checks.due("22 " + what, storm.chanceNumerator(days, weather), over);
        Checks.due("23 " + what, storm.chanceDenominator(days, weather), under);
        Checks.due("24 " + what, storm.numeratorByBranches(days, weather), over);
        Checks.due("25 " + what, storm.denominatorByBranches(days, weather), under);
    }

    private static void dueChances(String what, PaperStorm storm, int days, String want) {
        String[] fractions = want.split(" ");
        String[] names = {"calm", "breeze", "gale", "storm"};
        StringBuilder line = new StringBuilder();
        for (int weather = 0; weather < 4; weather++) {
            String[] parts = fractions[weather].split("/");
            dueChance(what, storm, days, weather, Long.parseLong(parts[0]), Long.parseLong(parts[1]));
            line.append(weather > 0 ? " " : "").append(names[weather]).append('=').append(fractions[weather]);
        }
        Checks.due("40 " + what, storm.writeChances(days), line.length());
        Checks.due("40 " + what, Edges.line(storm), line.toString());
        Checks.due("42 " + what, storm.isConsistent(), true);
    }

    /** "For each change from one weather to another or the same there is a weight from 0 to 3" */
    private static void everyWeight() {
        for (int change = 0; change < 16; change++) {
            PaperStorm storm = new PaperStorm();
            int previous = 1;
            for (int weight : new int[] {0, 3, 2, 1, 1, 0, 0, 3}) {
                Checks.due("18 previous", storm.setWeight(change / 4, change % 4, weight), previous);
                previous = weight;
                for (int other = 0; other < 16; other++) {
                    Checks.due("19 change " + other, storm.weightOf(other / 4, other % 4), other == change ? weight : 1);
                }
            }
            Checks.due("18 the same weight is set successfully too", storm.undo(), 7);
        }
    }

    /** "the sum of the weights of all changes from a weather is at least 1"; a sum of 0 is in RefusedEdgesTest. */
    private static void lastWeights() {
        for (int from = 0; from < 4; from++) {
            for (int last = 0; last < 4; last++) {
                PaperStorm storm = new PaperStorm();
                for (int to = 0; to < 4; to++) {
                    if (to != last) {
                        Checks.due("18 others are left", storm.setWeight(from, to, 0), 1);
                        Checks.due("18 a 0 stays one", storm.setWeight(from, to, 0), 0);
                    }
                }
                Checks.due("19 a sum of 1", storm.weightOf(from, last), 1);
                Checks.due("18 up", storm.setWeight(from, last, 3), 1);
                Checks.due("18 down to a sum of 1", storm.setWeight(from, last, 1), 3);
                Checks.due("18 another one makes room", storm.setWeight(from, (last + 1) % 4, 1), 0);
                Checks.due("18 a sum of 1 again", storm.setWeight(from, last, 0), 1);
            }
        }
    }

    private static void weathersAndDays() {
        for (int weather = 0; weather < 4; weather++) {
            PaperStorm storm = new PaperStorm();
            storm.observe(weather);
            Checks.due("20 observed", storm.weather(), weather);
            Checks.due("21 the first day", storm.day(), 1);
            dueChance("0 days", storm, 0, weather, 1, 1);
            Checks.due("27 0 days", storm.likeliest(0), weather);
        }
    }

    /** "The fraction for 0 is 0/1, that for 1 is 1/1": no day is a sequence that stays where it is. */
    private static void today() {
        for (int present = 0; present < 4; present++) {
            PaperStorm storm = new PaperStorm();
            storm.observe(present);
            storm.setWeight(present, present, 0);
            for (int weather = 0; weather < 4; weather++) {
                boolean isPresent = weather == present;
                dueChance("0 days", storm, 0, weather, isPresent ? 1 : 0, 1);
                Checks.due("26 0 days", storm.sequenceCount(0, weather), isPresent ? 1 : 0);
            }
        }
    }

    private static void sureAndImpossible() {
        PaperStorm storm = weighted(new int[][] {{0, 3, 0, 0}, {0, 0, 2, 0}, {0, 0, 0, 1}, {3, 0, 0, 0}});
        dueChances("sure", storm, 0, "1/1 0/1 0/1 0/1");
        dueChances("sure", storm, 1, "0/1 1/1 0/1 0/1");
        dueChances("sure", storm, 2, "0/1 0/1 1/1 0/1");
        dueChances("sure", storm, 3, "0/1 0/1 0/1 1/1");
        for (int days = 0; days <= 3; days++) {
            Checks.due("27 sure", storm.likeliest(days), days);
            for (int weather = 0; weather < 4; weather++) {
                Checks.due("26 sure", storm.sequenceCount(days, weather), weather == days ? 1 : 0);
            }
        }
    }

    private static void lowestTerms() {
        dueChances("twos", weighted(new int[][] {{2, 2, 0, 0}, {1, 1, 1, 1}, {1, 1, 1, 1}, {1, 1, 1, 1}}), 1,
                "1/2 1/2 0/1 0/1");
        dueChances("threes", weighted(new int[][] {{3, 3, 3, 3}, {1, 1, 1, 1}, {1, 1, 1, 1}, {1, 1, 1, 1}}), 1,
                "1/4 1/4 1/4 1/4");
        dueChances("three of nine", weighted(new int[][] {{3, 3, 2, 1}, {1, 1, 1, 1}, {1, 1, 1, 1}, {1, 1, 1, 1}}), 1,
                "1/3 1/3 2/9 1/9");
        dueChances("one of ten", weighted(new int[][] {{3, 3, 3, 1}, {1, 1, 1, 1}, {1, 1, 1, 1}, {1, 1, 1, 1}}), 1,
                "3/10 3/10 3/10 1/10");
        PaperStorm greatest = weighted(new int[][] {{3, 3, 3, 3}, {3, 3, 3, 3}, {3, 3, 3, 3}, {3, 3, 3, 3}});
        for (int days = 1; days <= 3; days++) {
            dueChances("greatest weights", greatest, days, "1/4 1/4 1/4 1/4");
        }
    }

    /** Fractions of several sequences that together are a whole, or come down to lower terms. */
    private static void sumsOfBranches() {
        PaperStorm storm = weighted(new int[][] {{1, 2, 3, 1}, {0, 0, 0, 1}, {0, 0, 0, 2}, {0, 0, 0, 3}});
        dueChances("to one", storm, 1, "1/7 2/7 3/7 1/7");
        dueChances("to one", storm, 2, "1/49 2/49 3/49 43/49");
        storm.setWeight(0, 0, 0);
        dueChances("to one", storm, 1, "0/1 1/3 1/2 1/6");
        dueChances("to one", storm, 2, "0/1 0/1 0/1 1/1");
        dueChances("to one", storm, 3, "0/1 0/1 0/1 1/1");
        Checks.due("26 to one", storm.sequenceCount(2, 3), 3);
        Checks.due("26 to one", storm.sequenceCount(3, 3), 3);
        Checks.due("26 to one", storm.sequenceCount(3, 0), 0);
    }

    /** "the lowest one in case of a tie" */
    private static void likeliestOfTies() {
        int[][] rows = {
            {1, 1, 1, 1, 0}, {3, 3, 3, 3, 0}, {0, 1, 1, 1, 1}, {0, 0, 1, 1, 2}, {0, 0, 0, 1, 3}, {1, 0, 0, 1, 0},
            {1, 2, 1, 2, 1}, {1, 1, 2, 2, 2}, {2, 1, 1, 2, 0}, {0, 2, 0, 2, 1}, {2, 3, 3, 3, 1}, {2, 2, 3, 2, 2},
            {2, 2, 2, 3, 3}, {3, 2, 2, 2, 0}, {1, 0, 1, 0, 0}};
        for (int[] row : rows) {
            for (int from = 0; from < 4; from++) {
                PaperStorm storm = new PaperStorm();
                storm.observe(from);
                for (int to = 3; to >= 0; to--) {
                    storm.setWeight(from, to, Math.max(row[to], 1));
                }
                for (int to = 0; to < 4; to++) {
                    storm.setWeight(from, to, row[to]);
                }
                Checks.due("27 the lowest of a tie", storm.likeliest(1), row[4]);
                storm.issue(1);
                Checks.due("29 says the lowest of a tie", storm.weatherOf(0), row[4]);
            }
        }
        // Ties of chances that come about in different ways: 1/4 + 1/4 for gale, and 1/2 for storm.
        PaperStorm storm = weighted(new int[][] {{0, 2, 0, 2}, {0, 0, 1, 0}, {1, 0, 0, 0}, {0, 0, 0, 3}});
        dueChances("tie after two days", storm, 2, "0/1 0/1 1/2 1/2");
        Checks.due("27 tie after two days", storm.likeliest(2), 2);
        dueChances("tie after three days", storm, 3, "1/2 0/1 0/1 1/2");
        Checks.due("27 tie after three days", storm.likeliest(3), 0);
    }

    /** The fractions are compared as they are, by numerators and denominators both. */
    private static void likeliestByALittle() {
        PaperStorm storm = weighted(new int[][] {{0, 2, 3, 2}, {3, 0, 0, 0}, {0, 1, 0, 2}, {0, 3, 0, 0}});
        dueChances("a little", storm, 1, "0/1 2/7 3/7 2/7");
        Checks.due("27 a little", storm.likeliest(1), 2);
        dueChances("a little", storm, 2, "2/7 3/7 0/1 2/7");
        Checks.due("27 a little", storm.likeliest(2), 1);
        dueChances("a little", storm, 3, "3/7 18/49 6/49 4/49");
        Checks.due("27 a little", storm.likeliest(3), 0);
        PaperStorm first = weighted(new int[][] {{0, 1, 1, 0}, {2, 1, 1, 0}, {2, 2, 0, 0}, {1, 1, 1, 1}});
        dueChances("the first of smaller numbers", first, 2, "1/2 3/8 1/8 0/1");
        Checks.due("27 the first of smaller numbers", first.likeliest(2), 0);
        PaperStorm last = weighted(new int[][] {{0, 1, 1, 0}, {1, 1, 2, 0}, {0, 2, 2, 0}, {1, 1, 1, 1}});
        dueChances("the last of smaller numbers", last, 2, "1/8 3/8 1/2 0/1");
        Checks.due("27 the last of smaller numbers", last.likeliest(2), 2);
    }

    /** "sequences of weathers with a chance greater than 0", from none to all 16 of three days. */
    private static void sequences() {
        PaperStorm storm = new PaperStorm();
        int[] most = {0, 1, 4, 16};
        for (int weather = 0; weather < 4; weather++) {
            for (int days = 1; days <= 3; days++) {
                Checks.due("26 all", storm.sequenceCount(days, weather), most[days]);
            }
        }
        storm.setWeight(1, 3, 3);
        Checks.due("26 a weight counts one sequence", storm.sequenceCount(3, 3), 16);
        storm.setWeight(1, 3, 0);
        Checks.due("26 one change less", storm.sequenceCount(1, 3), 1);
        Checks.due("26 one change less", storm.sequenceCount(2, 3), 3);
        Checks.due("26 one change less", storm.sequenceCount(3, 3), 11);
        Checks.due("26 one change less", storm.sequenceCount(3, 1), 15);
        storm.observe(1);
        Checks.due("26 from the present weather", storm.sequenceCount(1, 3), 0);
        Checks.due("26 from the present weather", storm.sequenceCount(1, 2), 1);
    }

    private static void uneven() {
        PaperStorm storm = weighted(UNEVEN);
        dueChances("uneven", storm, 1, "3/11 2/11 3/11 3/11");
        dueChances("uneven", storm, 3, "1673989/10781100 111108071/528273900 50941279/176091300 60772177/176091300");
        storm.observe(3);
        storm.setWeight(0, 3, 3);
        storm.setWeight(3, 0, 0);
        dueChances("uneven", storm, 1, "0/1 1/7 3/7 3/7");
    }
}
