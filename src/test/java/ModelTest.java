import java.util.Random;

/** All promises: long runs of calls, drawn from a fixed seed, must answer as the model does. */
public final class ModelTest {
    private static final int RUNS = 360;
    // A text and its execution, 79 calls at most, can begin with the last of these; an object has 512.
    private static final int CALLS = 434;
    private static final String[] MODIFYING = {
        "setPressure", "setPressure", "setPressure", "foldRow", "foldColumn", "shift", "setThreshold", "setThreshold",
        "setWeight", "setWeight", "issue", "issue", "withdraw", "observe", "observe", "undo", "undo", "save", "restore"};
    private static final String[] ASKING = {
        "pressureAt", "totalPressure", "threshold", "isFrontRight", "isFrontBelow", "frontCount", "steepest",
        "regionCount", "regionCountByUnion", "regionSize", "isSameRegion", "weightOf", "weather", "day",
        "chanceNumerator", "chanceDenominator", "numeratorByBranches", "denominatorByBranches", "sequenceCount",
        "likeliest", "shownWeather", "forecastCount", "dayOf", "weatherOf", "scoredCount", "totalError", "meanError",
        "hitShare", "writeRow", "writeChances", "lineAt", "isConsistent", "errorPosition", "failedCommand"};
    private static final String[] WORDS = {
        "set", "row", "column", "shift", "threshold", "weight", "issue", "withdraw", "observe", "look"};
    private static final int[] FAR = {-1, 5, 100, Integer.MAX_VALUE, Integer.MIN_VALUE};

    private final Random random;
    private final PaperStorm storm = new PaperStorm();
    private final Model model = new Model();

    private ModelTest(long seed) {
        random = new Random(seed);
    }

    public static void main(String[] args) {
        for (int run = 0; run < RUNS; run++) {
            new ModelTest(run).run("run " + run);
        }
        Checks.finish("ModelTest");
    }

    private void run(String what) {
        for (int call = 0; call < CALLS; ) {
            int kind = random.nextInt(20);
            if (kind == 0) {
                String text = randomText();
                for (int index = 0; index < text.length(); index++) {
                    compare(what, "type", text.charAt(index), 0, 0, 0);
                }
                compare(what, "execute", 0, 0, 0, 0);
                call += text.length() + 1;
            } else if (kind < 10) {
                String name = MODIFYING[random.nextInt(MODIFYING.length)];
                // A restore in the middle forgets much, so it comes seldom.
                boolean skipped = name.equals("restore") && random.nextInt(4) > 0;
                compareWithNumbers(what, skipped ? "setPressure" : name);
                call++;
            } else {
                compareWithNumbers(what, ASKING[random.nextInt(ASKING.length)]);
                call++;
            }
        }
    }

    private void compareWithNumbers(String what, String name) {
        switch (name) {
            case "setPressure":
                compare(what, name, near(5), near(5), near(100), 0);
                break;
            case "shift":
                compare(what, name, random.nextInt(10) == 0 ? random.nextInt(65536) : "nesw".charAt(random.nextInt(4)), 0, 0, 0);
                break;
            case "setThreshold":
                compare(what, name, near(random.nextBoolean() ? 51 : 100), 0, 0, 0);
                break;
            case "foldRow": case "foldColumn": case "pressureAt": case "isFrontRight": case "isFrontBelow":
            case "regionSize": case "isSameRegion": case "writeRow":
                compare(what, name, near(5), near(5), near(5), near(5));
                break;
            case "lineAt":
                compare(what, name, near(random.nextBoolean() ? 14 : 90), 0, 0, 0);
                break;
            default:
                compare(what, name, near(4), near(4), near(4), 0);
                break;
        }
    }

    /** A number below the limit in most cases. */
    private int near(int limit) {
        return random.nextInt(20) == 0 ? FAR[random.nextInt(FAR.length)] : random.nextInt(limit);
    }

    private String randomText() {
        StringBuilder text = new StringBuilder();
        int commands = 1 + random.nextInt(6);
        for (int command = 0; command < commands; command++) {
            text.append(command > 0 ? ";" : "").append(randomCommand());
        }
        if (text.length() > 60 && random.nextInt(4) > 0) {
            text.setLength(Math.max(text.lastIndexOf(";", 60), 0));
        }
        if (random.nextInt(4) == 0 && text.length() > 0) {
            int place = random.nextInt(text.length());
            char sign = random.nextBoolean() ? (char) (32 + random.nextInt(95)) : ";n0 9ws:/".charAt(random.nextInt(9));
            switch (random.nextInt(4)) {
                case 0: text.setCharAt(place, sign); break;
                case 1: text.insert(place, sign); break;
                case 2: text.deleteCharAt(place); break;
                default: text.setLength(place); break;
            }
        }
        return text.toString();
    }

    private String randomCommand() {
        String word = WORDS[random.nextInt(WORDS.length)];
        switch (word) {
            case "set": return word + " " + digit(5) + " " + digit(5) + " " + random.nextInt(100);
            case "row": case "column": return word + " " + (random.nextInt(15) == 0 ? 4 : 1 + random.nextInt(3));
            case "shift": return word + " " + "nesw".charAt(random.nextInt(4));
            case "threshold": return word + " " + (random.nextInt(15) == 0 ? 51 : 1 + random.nextInt(50));
            case "weight": return word + " " + digit(4) + " " + digit(4) + " " + digit(4);
            case "issue": return word + " " + (random.nextInt(15) == 0 ? 4 : 1 + random.nextInt(3));
            case "withdraw": return word + " " + random.nextInt(3);
            case "observe": return word + " " + digit(4);
            default: return word;
        }
    }

    private int digit(int limit) {
        return random.nextInt(25) == 0 ? random.nextInt(10) : random.nextInt(limit);
    }

    private void compare(String what, String name, int a, int b, int c, int d) {
        Object want = answer(() -> model.call(name, a, b, c, d));
        Object got = answer(() -> call(name, a, b, c, d));
        Checks.due(what + " " + name + " " + a + " " + b + " " + c + " " + d, got, want);
    }

    private static Object answer(Checks.Call call) {
        try {
            return call.answer();
        } catch (RuntimeException e) {
            return e.getClass();
        }
    }

    private Object call(String name, int a, int b, int c, int d) {
        switch (name) {
            case "setPressure": return storm.setPressure(a, b, c);
            case "pressureAt": return storm.pressureAt(a, b);
            case "totalPressure": return storm.totalPressure();
            case "foldRow": return storm.foldRow(a);
            case "foldColumn": return storm.foldColumn(a);
            case "shift": return storm.shift((char) a);
            case "setThreshold": return storm.setThreshold(a);
            case "threshold": return storm.threshold();
            case "isFrontRight": return storm.isFrontRight(a, b);
            case "isFrontBelow": return storm.isFrontBelow(a, b);
            case "frontCount": return storm.frontCount();
            case "steepest": return storm.steepest();
            case "regionCount": return storm.regionCount();
            case "regionCountByUnion": return storm.regionCountByUnion();
            case "regionSize": return storm.regionSize(a, b);
            case "isSameRegion": return storm.isSameRegion(a, b, c, d);
            case "setWeight": return storm.setWeight(a, b, c);
            case "weightOf": return storm.weightOf(a, b);
            case "weather": return storm.weather();
            case "day": return storm.day();
            case "chanceNumerator": return storm.chanceNumerator(a, b);
            case "chanceDenominator": return storm.chanceDenominator(a, b);
            case "numeratorByBranches": return storm.numeratorByBranches(a, b);
            case "denominatorByBranches": return storm.denominatorByBranches(a, b);
            case "sequenceCount": return storm.sequenceCount(a, b);
            case "likeliest": return storm.likeliest(a);
            case "shownWeather": return storm.shownWeather();
            case "issue": return storm.issue(a);
            case "withdraw": return storm.withdraw(a);
            case "observe": return storm.observe(a);
            case "forecastCount": return storm.forecastCount();
            case "dayOf": return storm.dayOf(a);
            case "weatherOf": return storm.weatherOf(a);
            case "scoredCount": return storm.scoredCount();
            case "totalError": return storm.totalError();
            case "meanError": return storm.meanError();
            case "hitShare": return storm.hitShare();
            case "writeRow": return storm.writeRow(a);
            case "writeChances": return storm.writeChances(a);
            case "lineAt": return storm.lineAt(a);
            case "isConsistent": return storm.isConsistent();
            case "type": return storm.type((char) a);
            case "execute": return storm.execute();
            case "errorPosition": return storm.errorPosition();
            case "failedCommand": return storm.failedCommand();
            case "undo": return storm.undo();
            case "save": return storm.save();
            case "restore": return storm.restore();
            default: throw new Error(name);
        }
    }
}
