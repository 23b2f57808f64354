import java.math.BigInteger;
import java.util.ArrayList;
import java.util.List;
import java.util.NoSuchElementException;
import java.util.regex.Matcher;
import java.util.regex.Pattern;

/**
 * The document once more, written as another program would be: whole copies of an unchanging state, fractions of any
 * size over one common denominator, and a regular expression for the command texts.
 */
final class Model {
    private static final String[] NAMES = {"calm", "breeze", "gale", "storm"};
    private static final String COMMAND = "(?:set \\d \\d \\d\\d?|row \\d|column \\d|shift [nesw]|threshold \\d\\d?"
            + "|weight \\d \\d \\d|issue \\d|withdraw \\d|observe \\d|look)";
    private static final Pattern TEXT = Pattern.compile(COMMAND + "(?:;" + COMMAND + ")*");

    private static final class State {
        int[][] sheet = new int[5][5];
        int threshold = 20;
        int[][] weights = new int[4][4];
        int weather = 0;
        int day = 0;
        List<int[]> forecasts = new ArrayList<>();
        List<Integer> errors = new ArrayList<>();

        State copy() {
            State copy = new State();
            for (int row = 0; row < 5; row++) {
                copy.sheet[row] = sheet[row].clone();
            }
            copy.threshold = threshold;
            for (int from = 0; from < 4; from++) {
                copy.weights[from] = weights[from].clone();
            }
            copy.weather = weather;
            copy.day = day;
            copy.forecasts.addAll(forecasts);
            copy.errors.addAll(errors);
            return copy;
        }
    }

    private State state = new State();
    private State saved = null;
    private List<State> past = new ArrayList<>();
    private String buffer = "";
    private String line = "";
    private int malformedAt = -1;
    private int failedAt = -1;

    Model() {
        for (int[] row : state.sheet) {
            java.util.Arrays.fill(row, 50);
        }
        for (int[] row : state.weights) {
            java.util.Arrays.fill(row, 1);
        }
    }

    private void keep(State before) {
        past.add(before);
        if (past.size() > 8) {
            past.remove(0);
        }
    }

    private static void index(boolean good) {
        if (!good) {
            throw new IndexOutOfBoundsException();
        }
    }

    private static void argument(boolean good) {
        if (!good) {
            throw new IllegalArgumentException();
        }
    }

    private static void allowed(boolean good) {
        if (!good) {
            throw new IllegalStateException();
        }
    }

    private static void there(boolean good) {
        if (!good) {
            throw new NoSuchElementException();
        }
    }

    private static boolean in(int number, int least, int most) {
        return least <= number && number <= most;
    }

    /** The answer of a call of the face, by its name. */
    Object call(String name, int a, int b, int c, int d) {
        switch (name) {
            case "setPressure": case "foldRow": case "foldColumn": case "shift": case "setThreshold":
            case "setWeight": case "issue": case "withdraw": case "observe": {
                State before = state.copy();
                Object answer = modify(name, a, b, c);
                keep(before);
                return answer;
            }
            case "pressureAt": index(in(a, 0, 4) && in(b, 0, 4)); return state.sheet[a][b];
            case "totalPressure": return java.util.Arrays.stream(state.sheet).flatMapToInt(java.util.Arrays::stream).sum();
            case "threshold": return state.threshold;
            case "isFrontRight": index(in(a, 0, 4) && in(b, 0, 4)); there(b < 4); return front(a, b, a, b + 1);
            case "isFrontBelow": index(in(a, 0, 4) && in(b, 0, 4)); there(a < 4); return front(a, b, a + 1, b);
            case "frontCount": return steps(state.threshold);
            case "steepest": return steepest();
            case "regionCount": case "regionCountByUnion": return regions();
            case "regionSize": index(in(a, 0, 4) && in(b, 0, 4)); return size(reach(a, b));
            case "isSameRegion": index(in(a, 0, 4) && in(b, 0, 4) && in(c, 0, 4) && in(d, 0, 4)); return reach(a, b)[c][d];
            case "weightOf": argument(in(a, 0, 3) && in(b, 0, 3)); return state.weights[a][b];
            case "weather": return state.weather;
            case "day": return state.day;
            case "chanceNumerator": case "numeratorByBranches":
                argument(in(a, 0, 3) && in(b, 0, 3)); return chance(a, b)[0].longValueExact();
            case "chanceDenominator": case "denominatorByBranches":
                argument(in(a, 0, 3) && in(b, 0, 3)); return chance(a, b)[1].longValueExact();
            case "sequenceCount": argument(in(a, 0, 3) && in(b, 0, 3)); return sequences(state.weather, a, b);
            case "likeliest": argument(in(a, 0, 3)); return likeliest(a);
            case "shownWeather": return shown();
            case "forecastCount": return state.forecasts.size();
            case "dayOf": index(in(a, 0, state.forecasts.size() - 1)); return state.forecasts.get(a)[0];
            case "weatherOf": index(in(a, 0, state.forecasts.size() - 1)); return state.forecasts.get(a)[1];
            case "scoredCount": return state.errors.size();
            case "totalError": return errorSum();
            case "meanError": scored(); return (double) errorSum() / state.errors.size();
            case "hitShare": scored(); return (float) java.util.Collections.frequency(state.errors, 0) / state.errors.size();
            case "writeRow": index(in(a, 0, 4)); line = row(a); return line.length();
            case "writeChances": argument(in(a, 0, 3)); line = chances(a); return line.length();
            case "lineAt": index(in(a, 0, line.length() - 1)); return line.charAt(a);
            case "isConsistent": return true;
            case "type": argument(in(a, 32, 126)); allowed(buffer.length() < 60); buffer += (char) a; return buffer.length();
            case "execute": return execute();
            case "errorPosition": there(malformedAt >= 0); return malformedAt;
            case "failedCommand": there(failedAt >= 0); return failedAt;
            case "undo": allowed(!past.isEmpty()); state = past.remove(past.size() - 1); return past.size();
            case "save": saved = state.copy(); return state.day;
            case "restore": allowed(saved != null); state = saved.copy(); past.clear(); return state.day;
            default: throw new Error(name);
        }
    }

    private Object modify(String name, int a, int b, int c) {
        int[][] old = state.copy().sheet;
        switch (name) {
            case "setPressure":
                index(in(a, 0, 4) && in(b, 0, 4));
                argument(in(c, 0, 99));
                state.sheet[a][b] = c;
                return old[a][b];
            case "foldRow":
                index(in(a, 1, 3));
                for (int row = 0; row < a; row++) {
                    for (int column = 0; column < 5 && 2 * a - row < 5; column++) {
                        fold(row, column, 2 * a - row, column);
                    }
                }
                return changed(old);
            case "foldColumn":
                index(in(a, 1, 3));
                for (int column = 0; column < a; column++) {
                    for (int row = 0; row < 5 && 2 * a - column < 5; row++) {
                        fold(row, column, row, 2 * a - column);
                    }
                }
                return changed(old);
            case "shift":
                argument(a == 'n' || a == 'e' || a == 's' || a == 'w');
                for (int row = 0; row < 5; row++) {
                    for (int column = 0; column < 5; column++) {
                        int down = a == 's' ? 1 : a == 'n' ? 4 : 0;
                        int right = a == 'e' ? 1 : a == 'w' ? 4 : 0;
                        state.sheet[(row + down) % 5][(column + right) % 5] = old[row][column];
                    }
                }
                return changed(old);
            case "setThreshold": {
                argument(in(a, 1, 50));
                int before = state.threshold;
                state.threshold = a;
                return before;
            }
            case "setWeight": {
                argument(in(a, 0, 3) && in(b, 0, 3) && in(c, 0, 3));
                int[] weights = state.weights[a].clone();
                weights[b] = c;
                allowed(java.util.Arrays.stream(weights).sum() > 0);
                int before = state.weights[a][b];
                state.weights[a] = weights;
                return before;
            }
            case "issue":
                argument(in(a, 1, 3));
                allowed(state.forecasts.size() < 6);
                state.forecasts.add(new int[] {state.day + a, likeliest(a)});
                return state.forecasts.size() - 1;
            case "withdraw":
                index(in(a, 0, state.forecasts.size() - 1));
                state.forecasts.remove(a);
                return state.forecasts.size();
            default:
                argument(in(a, 0, 3));
                return observe(a);
        }
    }

    private int observe(int weather) {
        state.day++;
        state.weights[state.weather][weather] = Math.min(3, state.weights[state.weather][weather] + 1);
        state.weather = weather;
        int sum = 0;
        List<int[]> left = new ArrayList<>();
        for (int[] forecast : state.forecasts) {
            if (forecast[0] == state.day) {
                state.errors.add(Math.abs(forecast[1] - weather));
                sum += Math.abs(forecast[1] - weather);
            } else {
                left.add(forecast);
            }
        }
        state.forecasts = left;
        return sum;
    }

    private void fold(int row, int column, int otherRow, int otherColumn) {
        int sum = state.sheet[row][column] + state.sheet[otherRow][otherColumn];
        state.sheet[row][column] = sum - sum / 2;
        state.sheet[otherRow][otherColumn] = sum / 2;
    }

    private int changed(int[][] old) {
        int count = 0;
        for (int cell = 0; cell < 25; cell++) {
            count += old[cell / 5][cell % 5] == state.sheet[cell / 5][cell % 5] ? 0 : 1;
        }
        return count;
    }

    private boolean front(int row, int column, int otherRow, int otherColumn) {
        return Math.abs(state.sheet[row][column] - state.sheet[otherRow][otherColumn]) >= state.threshold;
    }

    private int steps(int least) {
        int count = 0;
        for (int line = 0; line < 5; line++) {
            for (int place = 0; place < 4; place++) {
                count += Math.abs(state.sheet[line][place] - state.sheet[line][place + 1]) >= least ? 1 : 0;
                count += Math.abs(state.sheet[place][line] - state.sheet[place + 1][line]) >= least ? 1 : 0;
            }
        }
        return count;
    }

    private int steepest() {
        int steepest = 99;
        while (steepest > 0 && steps(steepest) == 0) {
            steepest--;
        }
        return steepest;
    }

    /** All cells that are reached from a cell, by going on until nothing is added. */
    private boolean[][] reach(int firstRow, int firstColumn) {
        boolean[][] reached = new boolean[5][5];
        reached[firstRow][firstColumn] = true;
        for (int round = 0; round < 25; round++) {
            for (int row = 0; row < 5; row++) {
                for (int column = 0; column < 5; column++) {
                    if (column < 4 && !front(row, column, row, column + 1)) {
                        reached[row][column] |= reached[row][column + 1];
                        reached[row][column + 1] |= reached[row][column];
                    }
                    if (row < 4 && !front(row, column, row + 1, column)) {
                        reached[row][column] |= reached[row + 1][column];
                        reached[row + 1][column] |= reached[row][column];
                    }
                }
            }
        }
        return reached;
    }

    private static int size(boolean[][] cells) {
        int size = 0;
        for (int cell = 0; cell < 25; cell++) {
            size += cells[cell / 5][cell % 5] ? 1 : 0;
        }
        return size;
    }

    private int regions() {
        int count = 0;
        for (int cell = 0; cell < 25; cell++) {
            boolean[][] region = reach(cell / 5, cell % 5);
            boolean first = true;
            for (int earlier = 0; earlier < cell; earlier++) {
                first &= !region[earlier / 5][earlier % 5];
            }
            count += first ? 1 : 0;
        }
        return count;
    }

    private int shown() {
        int regions = regions();
        return regions == 1 ? 0 : regions <= 3 ? 1 : regions <= 7 ? 2 : 3;
    }

    /** The chance of coming from a weather to another one, in parts of 27720 to the power of the days. */
    private BigInteger parts(int from, int days, int to) {
        if (days == 0) {
            return from == to ? BigInteger.ONE : BigInteger.ZERO;
        }
        int sum = java.util.Arrays.stream(state.weights[from]).sum();
        BigInteger parts = BigInteger.ZERO;
        for (int next = 0; next < 4; next++) {
            BigInteger part = BigInteger.valueOf(state.weights[from][next] * 27720L / sum);
            parts = parts.add(part.multiply(parts(next, days - 1, to)));
        }
        return parts;
    }

    private BigInteger[] chance(int days, int weather) {
        BigInteger parts = parts(state.weather, days, weather);
        BigInteger whole = BigInteger.valueOf(27720).pow(days);
        BigInteger shared = parts.gcd(whole);
        return new BigInteger[] {parts.divide(shared), whole.divide(shared)};
    }

    private int sequences(int from, int days, int to) {
        if (days == 0) {
            return from == to ? 1 : 0;
        }
        int count = 0;
        for (int next = 0; next < 4; next++) {
            count += state.weights[from][next] > 0 ? sequences(next, days - 1, to) : 0;
        }
        return count;
    }

    private int likeliest(int days) {
        int best = 0;
        for (int weather = 1; weather < 4; weather++) {
            if (parts(state.weather, days, weather).compareTo(parts(state.weather, days, best)) > 0) {
                best = weather;
            }
        }
        return best;
    }

    private int errorSum() {
        return state.errors.stream().mapToInt(Integer::intValue).sum();
    }

    private void scored() {
        if (state.errors.isEmpty()) {
            throw new ArithmeticException();
        }
    }

    private String row(int row) {
        String text = "" + state.sheet[row][0];
        for (int column = 1; column < 5; column++) {
            text += (front(row, column - 1, row, column) ? "|" : " ") + state.sheet[row][column];
        }
        return text;
    }

    private String chances(int days) {
        List<String> parts = new ArrayList<>();
        for (int weather = 0; weather < 4; weather++) {
            BigInteger[] chance = chance(days, weather);
            parts.add(NAMES[weather] + "=" + chance[0] + "/" + chance[1]);
        }
        return String.join(" ", parts);
    }

    private int execute() {
        String text = buffer;
        buffer = "";
        if (!TEXT.matcher(text).matches()) {
            malformedAt = errorPosition(text);
            throw new IllegalArgumentException();
        }
        State before = state.copy();
        String[] commands = text.split(";");
        for (int index = 0; index < commands.length; index++) {
            try {
                perform(commands[index].split(" "));
            } catch (RuntimeException e) {
                state = before;
                failedAt = index;
                throw new IllegalStateException();
            }
        }
        keep(before);
        return commands.length;
    }

    private static int errorPosition(String text) {
        for (int length = 1; length <= text.length(); length++) {
            Matcher matcher = TEXT.matcher(text.substring(0, length));
            if (!matcher.matches() && !matcher.hitEnd()) {
                return length - 1;
            }
        }
        return text.length();
    }

    private void perform(String[] words) {
        int[] values = new int[3];
        for (int index = 1; index < words.length && !words[0].equals("shift"); index++) {
            values[index - 1] = Integer.parseInt(words[index]);
        }
        switch (words[0]) {
            case "set": modify("setPressure", values[0], values[1], values[2]); break;
            case "row": modify("foldRow", values[0], 0, 0); break;
            case "column": modify("foldColumn", values[0], 0, 0); break;
            case "shift": modify("shift", words[1].charAt(0), 0, 0); break;
            case "threshold": modify("setThreshold", values[0], 0, 0); break;
            case "weight": modify("setWeight", values[0], values[1], values[2]); break;
            case "look": modify("observe", shown(), 0, 0); break;
            default: modify(words[0], values[0], 0, 0); break;
        }
    }
}
