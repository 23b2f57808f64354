import java.util.NoSuchElementException;

/** A weather station on a sheet of paper; ../shared/DOC.md says what it promises. */
public final class PaperStorm {
    private static final int SIDE = 5;
    private static final int CELLS = SIDE * SIDE;
    private static final int MOST_PRESSURE = 99;
    private static final int FIRST_PRESSURE = 50;
    private static final int MOST_THRESHOLD = 50;
    private static final int FIRST_THRESHOLD = 20;
    private static final int WEATHERS = 4;
    private static final int MOST_WEIGHT = 3;
    private static final int MOST_DAYS = 3;
    private static final int MOST_FORECASTS = 6;
    private static final int MOST_UNDONE = 8;
    private static final int MOST_TEXT = 60;
    // No command is shorter than four characters.
    private static final int MOST_COMMANDS = MOST_TEXT / 4;
    private static final int MOST_VALUES = 3;
    // Four names and four fractions of two int-sized numbers stay well below this.
    private static final int MOST_LINE = 160;
    private static final int NONE = -1;
    private static final Kind[] KINDS = Kind.values();

    private final Station station = new Station();
    private final Station beforeText = new Station();
    private final Station snapshot = new Station();
    private boolean hasSnapshot = false;
    private final History history = new History();
    private final Regions regions = new Regions();
    private final Chances chances = new Chances();
    private final CommandText text = new CommandText();
    private final Line line = new Line();
    private int malformedAt = NONE;
    private int failedAt = NONE;

    public PaperStorm() {
    }

    // The sheet.

    public int setPressure(int row, int column, int pressure) throws IndexOutOfBoundsException, IllegalArgumentException {
        requireCell(row, column);
        if (!Sheet.isPressure(pressure)) {
            throw new IllegalArgumentException("the pressure is not from 0 to 99");
        }
        history.remember(station);
        int previous = station.sheet.at(Sheet.cellOf(row, column));
        station.sheet.put(Sheet.cellOf(row, column), pressure);
        return previous;
    }

    public int pressureAt(int row, int column) throws IndexOutOfBoundsException {
        requireCell(row, column);
        return station.sheet.at(Sheet.cellOf(row, column));
    }

    public int totalPressure() {
        return station.sheet.sum();
    }

    public int foldRow(int row) throws IndexOutOfBoundsException {
        requireFold(row);
        history.remember(station);
        return station.sheet.foldAlongRow(row);
    }

    public int foldColumn(int column) throws IndexOutOfBoundsException {
        requireFold(column);
        history.remember(station);
        return station.sheet.foldAlongColumn(column);
    }

    public int shift(char direction) throws IllegalArgumentException {
        if (!Sheet.isDirection(direction)) {
            throw new IllegalArgumentException("the direction is none of n, e, s and w");
        }
        history.remember(station);
        return station.sheet.slide(direction);
    }

    // Fronts and regions.

    public int setThreshold(int threshold) throws IllegalArgumentException {
        if (!Sheet.isThreshold(threshold)) {
            throw new IllegalArgumentException("the threshold is not from 1 to 50");
        }
        history.remember(station);
        int previous = station.sheet.threshold;
        station.sheet.threshold = threshold;
        return previous;
    }

    public int threshold() {
        return station.sheet.threshold;
    }

    public boolean isFrontRight(int row, int column) throws IndexOutOfBoundsException, NoSuchElementException {
        requireCell(row, column);
        if (!Sheet.isCell(row, column + 1)) {
            throw new NoSuchElementException("there is no cell to the right");
        }
        return station.sheet.hasFront(Sheet.cellOf(row, column), Sheet.cellOf(row, column + 1));
    }

    public boolean isFrontBelow(int row, int column) throws IndexOutOfBoundsException, NoSuchElementException {
        requireCell(row, column);
        if (!Sheet.isCell(row + 1, column)) {
            throw new NoSuchElementException("there is no cell below");
        }
        return station.sheet.hasFront(Sheet.cellOf(row, column), Sheet.cellOf(row + 1, column));
    }

    public int frontCount() {
        return station.sheet.countFronts();
    }

    public int steepest() {
        return station.sheet.greatestStep();
    }

    public int regionCount() {
        return regions.flood(station.sheet);
    }

    public int regionCountByUnion() {
        return regions.unite(station.sheet);
    }

    public int regionSize(int row, int column) throws IndexOutOfBoundsException {
        requireCell(row, column);
        regions.flood(station.sheet);
        return regions.sizeAround(Sheet.cellOf(row, column));
    }

    public boolean isSameRegion(int row, int column, int otherRow, int otherColumn) throws IndexOutOfBoundsException {
        requireCell(row, column);
        requireCell(otherRow, otherColumn);
        regions.flood(station.sheet);
        return regions.regionOf(Sheet.cellOf(row, column)) == regions.regionOf(Sheet.cellOf(otherRow, otherColumn));
    }

    // Weather and chances.

    public int setWeight(int from, int to, int weight) throws IllegalArgumentException, IllegalStateException {
        requireWeather(from);
        requireWeather(to);
        if (!Climate.isWeight(weight)) {
            throw new IllegalArgumentException("the weight is not from 0 to 3");
        }
        if (!station.climate.keepsAChange(from, to, weight)) {
            throw new IllegalStateException("no change from this weather would be left");
        }
        history.remember(station);
        int previous = station.climate.weight(from, to);
        station.climate.putWeight(from, to, weight);
        return previous;
    }

    public int weightOf(int from, int to) throws IllegalArgumentException {
        requireWeather(from);
        requireWeather(to);
        return station.climate.weight(from, to);
    }

    public int weather() {
        return station.climate.present;
    }

    public int day() {
        return station.day;
    }

    public long chanceNumerator(int days, int weather) throws IllegalArgumentException {
        requireDays(days);
        requireWeather(weather);
        return chances.dayByDay(station.climate, days).numerator(weather);
    }

    public long chanceDenominator(int days, int weather) throws IllegalArgumentException {
        requireDays(days);
        requireWeather(weather);
        return chances.dayByDay(station.climate, days).denominator(weather);
    }

    public long numeratorByBranches(int days, int weather) throws IllegalArgumentException {
        requireDays(days);
        requireWeather(weather);
        return chances.branchByBranch(station.climate, days).numerator(weather);
    }

    public long denominatorByBranches(int days, int weather) throws IllegalArgumentException {
        requireDays(days);
        requireWeather(weather);
        return chances.branchByBranch(station.climate, days).denominator(weather);
    }

    public int sequenceCount(int days, int weather) throws IllegalArgumentException {
        requireDays(days);
        requireWeather(weather);
        chances.branchByBranch(station.climate, days);
        return chances.sequencesTo(weather);
    }

    public int likeliest(int days) throws IllegalArgumentException {
        requireDays(days);
        return chances.dayByDay(station.climate, days).greatest();
    }

    public int shownWeather() {
        int count = regions.flood(station.sheet);
        if (count >= 8) {
            return 3;
        }
        if (count >= 4) {
            return 2;
        }
        return count >= 2 ? 1 : 0;
    }

    // Forecasts.

    public int issue(int days) throws IllegalArgumentException, IllegalStateException {
        if (!Climate.isAhead(days)) {
            throw new IllegalArgumentException("the number of days is not from 1 to 3");
        }
        if (!station.forecasts.hasRoom()) {
            throw new IllegalStateException("there are 6 forecasts");
        }
        history.remember(station);
        foretell(days);
        return station.forecasts.count - 1;
    }

    public int withdraw(int forecast) throws IndexOutOfBoundsException {
        requireForecast(forecast);
        history.remember(station);
        station.forecasts.remove(forecast);
        return station.forecasts.count;
    }

    public int observe(int weather) throws IllegalArgumentException {
        requireWeather(weather);
        history.remember(station);
        return station.passDay(weather);
    }

    public int forecastCount() {
        return station.forecasts.count;
    }

    public int dayOf(int forecast) throws IndexOutOfBoundsException {
        requireForecast(forecast);
        return station.forecasts.dayAt(forecast);
    }

    public int weatherOf(int forecast) throws IndexOutOfBoundsException {
        requireForecast(forecast);
        return station.forecasts.weatherAt(forecast);
    }

    public int scoredCount() {
        return station.forecasts.scored;
    }

    public int totalError() {
        return station.forecasts.errors;
    }

    public double meanError() throws ArithmeticException {
        requireScored();
        return (double) station.forecasts.errors / (double) station.forecasts.scored;
    }

    public float hitShare() throws ArithmeticException {
        requireScored();
        return (float) station.forecasts.hits / (float) station.forecasts.scored;
    }

    // Lines and checks.

    public int writeRow(int row) throws IndexOutOfBoundsException {
        requireCell(row, 0);
        line.clear();
        for (int column = 0; column < SIDE; column++) {
            int cell = Sheet.cellOf(row, column);
            if (column > 0) {
                line.put(station.sheet.hasFront(cell - 1, cell) ? '|' : ' ');
            }
            line.putNumber(station.sheet.at(cell));
        }
        return line.length;
    }

    public int writeChances(int days) throws IllegalArgumentException {
        requireDays(days);
        Fractions fractions = chances.dayByDay(station.climate, days);
        line.clear();
        for (int weather = 0; weather < WEATHERS; weather++) {
            if (weather > 0) {
                line.put(' ');
            }
            line.putAll(Climate.nameOf(weather));
            line.put('=');
            line.putNumber(fractions.numerator(weather));
            line.put('/');
            line.putNumber(fractions.denominator(weather));
        }
        return line.length;
    }

    public char lineAt(int index) throws IndexOutOfBoundsException {
        if (!line.has(index)) {
            throw new IndexOutOfBoundsException("the line has no such character");
        }
        return line.signAt(index);
    }

    public boolean isConsistent() {
        boolean consistent = regions.flood(station.sheet) == regions.unite(station.sheet);
        for (int days = 0; days <= MOST_DAYS; days++) {
            Fractions byDay = chances.dayByDay(station.climate, days);
            Fractions byBranch = chances.branchByBranch(station.climate, days);
            consistent = consistent && byDay.equalsEach(byBranch) && byDay.addUpToOne();
        }
        return consistent;
    }

    // Text, undo and snapshots.

    public int type(char character) throws IllegalArgumentException, IllegalStateException {
        if (character < 32 || character > 126) {
            throw new IllegalArgumentException("the character is not from 32 to 126");
        }
        if (!text.hasRoom()) {
            throw new IllegalStateException("the text buffer contains 60 characters");
        }
        text.append(character);
        return text.length;
    }

    public int execute() throws IllegalArgumentException, IllegalStateException {
        int wrongAt = text.parse();
        text.clear();
        if (wrongAt != NONE) {
            malformedAt = wrongAt;
            throw new IllegalArgumentException("the text is malformed");
        }
        beforeText.copyFrom(station);
        for (int command = 0; command < text.commandCount; command++) {
            if (!isAllowed(command)) {
                station.copyFrom(beforeText);
                failedAt = command;
                throw new IllegalStateException("a command failed");
            }
            perform(command);
        }
        history.remember(beforeText);
        return text.commandCount;
    }

    public int errorPosition() throws NoSuchElementException {
        if (malformedAt == NONE) {
            throw new NoSuchElementException("no text was malformed");
        }
        return malformedAt;
    }

    public int failedCommand() throws NoSuchElementException {
        if (failedAt == NONE) {
            throw new NoSuchElementException("no command failed");
        }
        return failedAt;
    }

    public int undo() throws IllegalStateException {
        if (history.count == 0) {
            throw new IllegalStateException("nothing can be undone");
        }
        history.takeBack(station);
        return history.count;
    }

    public int save() {
        snapshot.copyFrom(station);
        hasSnapshot = true;
        return station.day;
    }

    public int restore() throws IllegalStateException {
        if (!hasSnapshot) {
            throw new IllegalStateException("there is no snapshot");
        }
        station.copyFrom(snapshot);
        history.clear();
        return station.day;
    }

    // What several calls share.

    private static void requireCell(int row, int column) {
        if (!Sheet.isCell(row, column)) {
            throw new IndexOutOfBoundsException("there is no such cell");
        }
    }

    private static void requireFold(int fold) {
        if (!Sheet.isFold(fold)) {
            throw new IndexOutOfBoundsException("the fold is not from 1 to 3");
        }
    }

    private static void requireWeather(int weather) {
        if (!Climate.isWeather(weather)) {
            throw new IllegalArgumentException("there is no such weather");
        }
    }

    private static void requireDays(int days) {
        if (days < 0 || days > MOST_DAYS) {
            throw new IllegalArgumentException("the number of days is not from 0 to 3");
        }
    }

    private void requireForecast(int forecast) {
        if (!station.forecasts.has(forecast)) {
            throw new IndexOutOfBoundsException("there is no such forecast");
        }
    }

    private void requireScored() {
        if (station.forecasts.scored == 0) {
            throw new ArithmeticException("no forecast was scored");
        }
    }

    private void foretell(int days) {
        int said = chances.dayByDay(station.climate, days).greatest();
        station.forecasts.add(station.day + days, said);
    }

    // A command is tested like the arguments of its public method, as a failed one must leave no trace.
    private boolean isAllowed(int command) {
        int first = text.valueAt(command, 0);
        int second = text.valueAt(command, 1);
        int third = text.valueAt(command, 2);
        switch (text.kindAt(command)) {
            case SET:
                return Sheet.isCell(first, second) && Sheet.isPressure(third);
            case ROW:
            case COLUMN:
                return Sheet.isFold(first);
            case SHIFT:
                return Sheet.isDirection((char) first);
            case THRESHOLD:
                return Sheet.isThreshold(first);
            case WEIGHT:
                return Climate.isWeather(first) && Climate.isWeather(second) && Climate.isWeight(third)
                        && station.climate.keepsAChange(first, second, third);
            case ISSUE:
                return Climate.isAhead(first) && station.forecasts.hasRoom();
            case WITHDRAW:
                return station.forecasts.has(first);
            case OBSERVE:
                return Climate.isWeather(first);
            default:
                return true;
        }
    }

    private void perform(int command) {
        int first = text.valueAt(command, 0);
        int second = text.valueAt(command, 1);
        int third = text.valueAt(command, 2);
        switch (text.kindAt(command)) {
            case SET:
                station.sheet.put(Sheet.cellOf(first, second), third);
                break;
            case ROW:
                station.sheet.foldAlongRow(first);
                break;
            case COLUMN:
                station.sheet.foldAlongColumn(first);
                break;
            case SHIFT:
                station.sheet.slide((char) first);
                break;
            case THRESHOLD:
                station.sheet.threshold = first;
                break;
            case WEIGHT:
                station.climate.putWeight(first, second, third);
                break;
            case ISSUE:
                foretell(first);
                break;
            case WITHDRAW:
                station.forecasts.remove(first);
                break;
            case OBSERVE:
                station.passDay(first);
                break;
            default:
                station.passDay(shownWeather());
                break;
        }
    }

    // The parts below look at each index themselves, so that none of them leans on its caller.

    /** The pressures and the threshold. */
    private static final class Sheet {
        private final int[] cells = new int[CELLS];
        private int threshold = FIRST_THRESHOLD;

        Sheet() {
            for (int cell = 0; cell < CELLS; cell++) {
                cells[cell] = FIRST_PRESSURE;
            }
        }

        static boolean isCell(int row, int column) {
            return row >= 0 && row < SIDE && column >= 0 && column < SIDE;
        }

        static boolean isPressure(int pressure) {
            return pressure >= 0 && pressure <= MOST_PRESSURE;
        }

        static boolean isFold(int fold) {
            return fold >= 1 && fold <= SIDE - 2;
        }

        static boolean isDirection(char direction) {
            return direction == 'n' || direction == 'e' || direction == 's' || direction == 'w';
        }

        static boolean isThreshold(int threshold) {
            return threshold >= 1 && threshold <= MOST_THRESHOLD;
        }

        static int cellOf(int row, int column) {
            return row * SIDE + column;
        }

        static boolean hasRightNeighbour(int cell) {
            return cell % SIDE < SIDE - 1;
        }

        static boolean hasLowerNeighbour(int cell) {
            return cell < CELLS - SIDE;
        }

        void copyFrom(Sheet other) {
            for (int cell = 0; cell < CELLS; cell++) {
                cells[cell] = other.cells[cell];
            }
            threshold = other.threshold;
        }

        int at(int cell) {
            return cell >= 0 && cell < CELLS ? cells[cell] : 0;
        }

        /** Answers how many pressures are different afterwards: 1 or 0. */
        int put(int cell, int pressure) {
            if (cell < 0 || cell >= CELLS) {
                return 0;
            }
            int changed = cells[cell] == pressure ? 0 : 1;
            cells[cell] = pressure;
            return changed;
        }

        int sum() {
            int sum = 0;
            for (int cell = 0; cell < CELLS; cell++) {
                sum += cells[cell];
            }
            return sum;
        }

        int foldAlongRow(int row) {
            int changed = 0;
            for (int distance = 1; row - distance >= 0 && row + distance < SIDE; distance++) {
                for (int column = 0; column < SIDE; column++) {
                    changed += level(cellOf(row - distance, column), cellOf(row + distance, column));
                }
            }
            return changed;
        }

        int foldAlongColumn(int column) {
            int changed = 0;
            for (int distance = 1; column - distance >= 0 && column + distance < SIDE; distance++) {
                for (int row = 0; row < SIDE; row++) {
                    changed += level(cellOf(row, column - distance), cellOf(row, column + distance));
                }
            }
            return changed;
        }

        private int level(int upper, int lower) {
            int both = at(upper) + at(lower);
            return put(upper, (both + 1) / 2) + put(lower, both / 2);
        }

        int slide(char direction) {
            int changed = 0;
            for (int place = 0; place < SIDE; place++) {
                switch (direction) {
                    case 'n':
                        changed += slideLine(cellOf(SIDE - 1, place), -SIDE);
                        break;
                    case 'e':
                        changed += slideLine(cellOf(place, 0), 1);
                        break;
                    case 's':
                        changed += slideLine(cellOf(0, place), SIDE);
                        break;
                    default:
                        changed += slideLine(cellOf(place, SIDE - 1), -1);
                        break;
                }
            }
            return changed;
        }

        // The first cell of the line receives what leaves the sheet at the line's end.
        private int slideLine(int firstCell, int stride) {
            int changed = 0;
            int carried = at(firstCell + (SIDE - 1) * stride);
            for (int step = 0; step < SIDE; step++) {
                int cell = firstCell + step * stride;
                int replaced = at(cell);
                changed += put(cell, carried);
                carried = replaced;
            }
            return changed;
        }

        private int difference(int cell, int other) {
            if (cell < 0 || cell >= CELLS || other < 0 || other >= CELLS) {
                return 0;
            }
            int difference = cells[cell] - cells[other];
            return difference < 0 ? -difference : difference;
        }

        boolean hasFront(int cell, int other) {
            return difference(cell, other) >= threshold;
        }

        int countFronts() {
            int count = 0;
            for (int cell = 0; cell < CELLS; cell++) {
                if (hasRightNeighbour(cell) && hasFront(cell, cell + 1)) {
                    count++;
                }
                if (hasLowerNeighbour(cell) && hasFront(cell, cell + SIDE)) {
                    count++;
                }
            }
            return count;
        }

        int greatestStep() {
            int greatest = 0;
            for (int cell = 0; cell < CELLS; cell++) {
                if (hasRightNeighbour(cell)) {
                    greatest = Math.max(greatest, difference(cell, cell + 1));
                }
                if (hasLowerNeighbour(cell)) {
                    greatest = Math.max(greatest, difference(cell, cell + SIDE));
                }
            }
            return greatest;
        }
    }

    /** Counts the regions of a sheet in two ways; its rows are used again for each count. */
    private static final class Regions {
        private final int[] regionOfCell = new int[CELLS];
        private final int[] queue = new int[CELLS];
        private int queued = 0;
        private final int[] groupOfCell = new int[CELLS];

        int flood(Sheet sheet) {
            for (int cell = 0; cell < CELLS; cell++) {
                regionOfCell[cell] = NONE;
            }
            queued = 0;
            int count = 0;
            for (int next = 0; next < CELLS; next++) {
                // Once every queued cell was looked at, the region is whole and another one begins.
                if (next == queued) {
                    enter(firstUnreached(), count);
                    count++;
                }
                int cell = queue[next];
                int row = cell / SIDE;
                int column = cell % SIDE;
                step(sheet, cell, row - 1, column);
                step(sheet, cell, row + 1, column);
                step(sheet, cell, row, column - 1);
                step(sheet, cell, row, column + 1);
            }
            return count;
        }

        private int firstUnreached() {
            int first = 0;
            for (int cell = CELLS - 1; cell >= 0; cell--) {
                if (regionOfCell[cell] == NONE) {
                    first = cell;
                }
            }
            return first;
        }

        private void step(Sheet sheet, int cell, int toRow, int toColumn) {
            if (!Sheet.isCell(toRow, toColumn)) {
                return;
            }
            int next = Sheet.cellOf(toRow, toColumn);
            if (regionOf(next) == NONE && !sheet.hasFront(cell, next)) {
                enter(next, regionOf(cell));
            }
        }

        private void enter(int cell, int region) {
            if (cell >= 0 && cell < CELLS && queued >= 0 && queued < CELLS) {
                regionOfCell[cell] = region;
                queue[queued] = cell;
                queued++;
            }
        }

        int regionOf(int cell) {
            return cell >= 0 && cell < CELLS ? regionOfCell[cell] : NONE;
        }

        int sizeAround(int cell) {
            int region = regionOf(cell);
            int size = 0;
            for (int other = 0; other < CELLS; other++) {
                if (regionOfCell[other] == region) {
                    size++;
                }
            }
            return size;
        }

        int unite(Sheet sheet) {
            for (int cell = 0; cell < CELLS; cell++) {
                groupOfCell[cell] = cell;
            }
            int count = CELLS;
            for (int cell = 0; cell < CELLS; cell++) {
                if (Sheet.hasRightNeighbour(cell) && !sheet.hasFront(cell, cell + 1)) {
                    count -= join(cell, cell + 1);
                }
                if (Sheet.hasLowerNeighbour(cell) && !sheet.hasFront(cell, cell + SIDE)) {
                    count -= join(cell, cell + SIDE);
                }
            }
            return count;
        }

        /** Answers how many groups there are fewer: 1 or 0. */
        private int join(int cell, int other) {
            if (cell < 0 || cell >= CELLS || other < 0 || other >= CELLS) {
                return 0;
            }
            int kept = groupOfCell[cell];
            int joined = groupOfCell[other];
            if (kept == joined) {
                return 0;
            }
            for (int member = 0; member < CELLS; member++) {
                if (groupOfCell[member] == joined) {
                    groupOfCell[member] = kept;
                }
            }
            return 1;
        }
    }

    /** The present weather and the weights of the changes. */
    private static final class Climate {
        private final int[] weights = new int[WEATHERS * WEATHERS];
        private int present = 0;

        Climate() {
            for (int change = 0; change < WEATHERS * WEATHERS; change++) {
                weights[change] = 1;
            }
        }

        static boolean isWeather(int weather) {
            return weather >= 0 && weather < WEATHERS;
        }

        static boolean isWeight(int weight) {
            return weight >= 0 && weight <= MOST_WEIGHT;
        }

        static boolean isAhead(int days) {
            return days >= 1 && days <= MOST_DAYS;
        }

        static String nameOf(int weather) {
            switch (weather) {
                case 0:
                    return "calm";
                case 1:
                    return "breeze";
                case 2:
                    return "gale";
                default:
                    return "storm";
            }
        }

        void copyFrom(Climate other) {
            for (int change = 0; change < WEATHERS * WEATHERS; change++) {
                weights[change] = other.weights[change];
            }
            present = other.present;
        }

        int weight(int from, int to) {
            return isWeather(from) && isWeather(to) ? weights[from * WEATHERS + to] : 0;
        }

        void putWeight(int from, int to, int weight) {
            if (isWeather(from) && isWeather(to)) {
                weights[from * WEATHERS + to] = weight;
            }
        }

        int weightSum(int from) {
            int sum = 0;
            for (int to = 0; to < WEATHERS && isWeather(from); to++) {
                sum += weights[from * WEATHERS + to];
            }
            return sum;
        }

        boolean keepsAChange(int from, int to, int weight) {
            return weightSum(from) - weight(from, to) + weight > 0;
        }

        void changeTo(int observed) {
            int weight = weight(present, observed);
            if (weight < MOST_WEIGHT) {
                putWeight(present, observed, weight + 1);
            }
            present = observed;
        }
    }

    /** One fraction in lowest terms for each weather. */
    private static final class Fractions {
        private final long[] numerators = new long[WEATHERS];
        private final long[] denominators = new long[WEATHERS];

        void clear() {
            for (int weather = 0; weather < WEATHERS; weather++) {
                numerators[weather] = 0;
                denominators[weather] = 1;
            }
        }

        void copyFrom(Fractions other) {
            for (int weather = 0; weather < WEATHERS; weather++) {
                numerators[weather] = other.numerators[weather];
                denominators[weather] = other.denominators[weather];
            }
        }

        long numerator(int weather) {
            return Climate.isWeather(weather) ? numerators[weather] : 0;
        }

        long denominator(int weather) {
            return Climate.isWeather(weather) ? denominators[weather] : 1;
        }

        // Three days of sums up to 12 keep every denominator below 2^30, so no product here leaves the long.
        void add(int weather, long numerator, long denominator) {
            if (!Climate.isWeather(weather) || numerator == 0) {
                return;
            }
            long shared = greatestDivisor(denominators[weather], denominator);
            long ownFactor = denominator / shared;
            long newFactor = denominators[weather] / shared;
            long sum = numerators[weather] * ownFactor + numerator * newFactor;
            long whole = newFactor * denominator;
            long common = greatestDivisor(sum, whole);
            numerators[weather] = sum / common;
            denominators[weather] = whole / common;
        }

        // Euclid's steps on longs are fewer than 100; the answer is a safe divisor in every case.
        private static long greatestDivisor(long one, long other) {
            long divisor = one;
            long rest = other;
            for (int step = 0; step < 100 && rest != 0; step++) {
                long next = divisor % rest;
                divisor = rest;
                rest = next;
            }
            return divisor > 0 ? divisor : 1;
        }

        int greatest() {
            int best = 0;
            for (int weather = 1; weather < WEATHERS; weather++) {
                if (numerators[weather] * denominator(best) > numerator(best) * denominators[weather]) {
                    best = weather;
                }
            }
            return best;
        }

        boolean equalsEach(Fractions other) {
            boolean equal = true;
            for (int weather = 0; weather < WEATHERS; weather++) {
                equal = equal && numerators[weather] == other.numerators[weather]
                        && denominators[weather] == other.denominators[weather];
            }
            return equal;
        }

        boolean addUpToOne() {
            long sum = 0;
            long whole = 1;
            for (int weather = 0; weather < WEATHERS; weather++) {
                long shared = greatestDivisor(whole, denominators[weather]);
                long factor = denominators[weather] / shared;
                sum = sum * factor + numerators[weather] * (whole / shared);
                whole = whole * factor;
            }
            return sum == whole;
        }
    }

    /** Computes the chances in two ways; its rows are used again for each call. */
    private static final class Chances {
        private final Fractions byDay = new Fractions();
        private final Fractions nextDay = new Fractions();
        private final Fractions byBranch = new Fractions();
        private final int[] sequences = new int[WEATHERS];

        Fractions dayByDay(Climate climate, int days) {
            byDay.clear();
            byDay.add(climate.present, 1, 1);
            for (int day = 0; day < days && day < MOST_DAYS; day++) {
                nextDay.clear();
                for (int from = 0; from < WEATHERS; from++) {
                    spread(climate, from);
                }
                byDay.copyFrom(nextDay);
            }
            return byDay;
        }

        private void spread(Climate climate, int from) {
            int sum = climate.weightSum(from);
            for (int to = 0; to < WEATHERS; to++) {
                nextDay.add(to, byDay.numerator(from) * climate.weight(from, to), byDay.denominator(from) * sum);
            }
        }

        Fractions branchByBranch(Climate climate, int days) {
            byBranch.clear();
            int branches = 1;
            for (int day = 0; day < days && day < MOST_DAYS; day++) {
                branches *= WEATHERS;
            }
            for (int weather = 0; weather < WEATHERS; weather++) {
                sequences[weather] = 0;
            }
            for (int branch = 0; branch < branches; branch++) {
                follow(climate, days, branch);
            }
            return byBranch;
        }

        // The digits of the branch's number to the base WEATHERS are the weathers of its days.
        private void follow(Climate climate, int days, int branch) {
            int weather = climate.present;
            long product = 1;
            long whole = 1;
            int rest = branch;
            for (int day = 0; day < days && day < MOST_DAYS; day++) {
                int next = rest % WEATHERS;
                rest = rest / WEATHERS;
                product *= climate.weight(weather, next);
                whole *= climate.weightSum(weather);
                weather = next;
            }
            if (product > 0 && Climate.isWeather(weather)) {
                byBranch.add(weather, product, whole);
                sequences[weather]++;
            }
        }

        /** Answers for the days that branchByBranch was last asked for. */
        int sequencesTo(int weather) {
            return Climate.isWeather(weather) ? sequences[weather] : 0;
        }
    }

    /** The forecasts for days to come, and the score of those whose day has come. */
    private static final class Forecasts {
        private final int[] days = new int[MOST_FORECASTS];
        private final int[] weathers = new int[MOST_FORECASTS];
        private int count = 0;
        private int scored = 0;
        private int errors = 0;
        private int hits = 0;

        void copyFrom(Forecasts other) {
            for (int forecast = 0; forecast < MOST_FORECASTS; forecast++) {
                days[forecast] = other.days[forecast];
                weathers[forecast] = other.weathers[forecast];
            }
            count = other.count;
            scored = other.scored;
            errors = other.errors;
            hits = other.hits;
        }

        boolean has(int forecast) {
            return forecast >= 0 && forecast < count && forecast < MOST_FORECASTS;
        }

        boolean hasRoom() {
            return count >= 0 && count < MOST_FORECASTS;
        }

        int dayAt(int forecast) {
            return has(forecast) ? days[forecast] : 0;
        }

        int weatherAt(int forecast) {
            return has(forecast) ? weathers[forecast] : 0;
        }

        void add(int day, int weather) {
            if (hasRoom()) {
                days[count] = day;
                weathers[count] = weather;
                count++;
            }
        }

        void remove(int forecast) {
            if (!has(forecast)) {
                return;
            }
            for (int later = forecast + 1; later < count && later < MOST_FORECASTS; later++) {
                days[later - 1] = days[later];
                weathers[later - 1] = weathers[later];
            }
            count--;
        }

        /** Answers the sum of the errors of the forecasts for this day. */
        int score(int day, int observed) {
            int sum = 0;
            // From the last one down, so that a removal moves none that is still to be looked at.
            for (int forecast = count - 1; forecast >= 0; forecast--) {
                if (dayAt(forecast) == day) {
                    int error = Math.abs(weatherAt(forecast) - observed);
                    sum += error;
                    scored++;
                    hits += error == 0 ? 1 : 0;
                    remove(forecast);
                }
            }
            errors += sum;
            return sum;
        }
    }

    /** All that is undone, saved and restored. */
    private static final class Station {
        private final Sheet sheet = new Sheet();
        private final Climate climate = new Climate();
        private final Forecasts forecasts = new Forecasts();
        private int day = 0;

        void copyFrom(Station other) {
            sheet.copyFrom(other.sheet);
            climate.copyFrom(other.climate);
            forecasts.copyFrom(other.forecasts);
            day = other.day;
        }

        int passDay(int observed) {
            day++;
            climate.changeTo(observed);
            return forecasts.score(day, observed);
        }
    }

    /** The stations before the last modifications, in a ring that drops the oldest one. */
    private static final class History {
        private final Station[] ring = new Station[MOST_UNDONE];
        private int next = 0;
        private int count = 0;

        History() {
            for (int place = 0; place < MOST_UNDONE; place++) {
                ring[place] = new Station();
            }
        }

        void remember(Station station) {
            if (next >= 0 && next < MOST_UNDONE) {
                ring[next].copyFrom(station);
                next = (next + 1) % MOST_UNDONE;
                count = Math.min(count + 1, MOST_UNDONE);
            }
        }

        void takeBack(Station station) {
            int last = (next + MOST_UNDONE - 1) % MOST_UNDONE;
            if (count > 0 && last >= 0) {
                station.copyFrom(ring[last]);
                next = last;
                count--;
            }
        }

        void clear() {
            count = 0;
        }
    }

    /** Parameters: d is a blank and a digit, n a blank and one or two digits, c the sign of a direction. */
    private enum Kind {
        SET("set", "ddn"),
        ROW("row", "d"),
        COLUMN("column", "d"),
        SHIFT("shift ", "c"),
        THRESHOLD("threshold", "n"),
        WEIGHT("weight", "ddd"),
        ISSUE("issue", "d"),
        WITHDRAW("withdraw", "d"),
        OBSERVE("observe", "d"),
        LOOK("look", "");

        private final String word;
        private final String parameters;

        Kind(String word, String parameters) {
            this.word = word;
            this.parameters = parameters;
        }
    }

    /** The text buffer and the commands that were read from it. */
    private static final class CommandText {
        private final char[] signs = new char[MOST_TEXT];
        private int length = 0;
        private int position = 0;
        private final Kind[] kinds = new Kind[MOST_COMMANDS];
        private final int[][] values = new int[MOST_COMMANDS][MOST_VALUES];
        private int commandCount = 0;

        CommandText() {
            for (int command = 0; command < MOST_COMMANDS; command++) {
                kinds[command] = Kind.LOOK;
            }
        }

        boolean hasRoom() {
            return length >= 0 && length < MOST_TEXT;
        }

        void append(char sign) {
            if (hasRoom()) {
                signs[length] = sign;
                length++;
            }
        }

        void clear() {
            length = 0;
        }

        Kind kindAt(int command) {
            return isPlace(command) ? kinds[command] : Kind.LOOK;
        }

        int valueAt(int command, int index) {
            return isPlace(command) && index >= 0 && index < MOST_VALUES ? values[command][index] : 0;
        }

        private static boolean isPlace(int command) {
            return command >= 0 && command < MOST_COMMANDS;
        }

        /** Answers the error position of the text, or NONE if it is well formed. */
        int parse() {
            position = 0;
            commandCount = 0;
            for (int command = 0; command < MOST_COMMANDS; command++) {
                if (!readCommand(command)) {
                    return position;
                }
                commandCount++;
                if (position >= length) {
                    return NONE;
                }
                if (!readSign(';')) {
                    return position;
                }
            }
            return position;
        }

        // Where a reading fails, the position stays at the first character that does not fit.
        private boolean readCommand(int command) {
            Kind kind = readWord();
            if (kind == null || !isPlace(command)) {
                return false;
            }
            kinds[command] = kind;
            for (int index = 0; index < kind.parameters.length() && index < MOST_VALUES; index++) {
                int value = readParameter(kind.parameters.charAt(index));
                if (value == NONE) {
                    return false;
                }
                values[command][index] = value;
            }
            return true;
        }

        // No word is the beginning of another one, so the word that fits furthest decides.
        private Kind readWord() {
            Kind found = null;
            int furthest = 0;
            for (int index = 0; index < KINDS.length; index++) {
                String word = KINDS[index].word;
                int fitting = fittingLength(word);
                furthest = Math.max(furthest, fitting);
                if (fitting == word.length()) {
                    found = KINDS[index];
                }
            }
            position += furthest;
            return found;
        }

        private int fittingLength(String word) {
            int fitting = 0;
            for (int index = 0; index < word.length(); index++) {
                if (fitting == index && isSignAt(position + index, word.charAt(index))) {
                    fitting++;
                }
            }
            return fitting;
        }

        private int readParameter(char form) {
            if (form == 'c') {
                return readDirection();
            }
            if (!readSign(' ')) {
                return NONE;
            }
            int value = readDigit();
            if (form == 'n' && value != NONE) {
                int second = readDigit();
                return second == NONE ? value : value * 10 + second;
            }
            return value;
        }

        private int readDirection() {
            char sign = signAt(position);
            if (!Sheet.isDirection(sign)) {
                return NONE;
            }
            position++;
            return sign;
        }

        private int readDigit() {
            char sign = signAt(position);
            if (sign < '0' || sign > '9') {
                return NONE;
            }
            position++;
            return sign - '0';
        }

        private boolean readSign(char sign) {
            if (!isSignAt(position, sign)) {
                return false;
            }
            position++;
            return true;
        }

        private boolean isSignAt(int index, char sign) {
            return signAt(index) == sign;
        }

        /** Answers (char) 0, which no text contains, outside the text. */
        private char signAt(int index) {
            return index >= 0 && index < length && index < MOST_TEXT ? signs[index] : (char) 0;
        }
    }

    /** The line that was written last. */
    private static final class Line {
        private final char[] signs = new char[MOST_LINE];
        private int length = 0;

        void clear() {
            length = 0;
        }

        boolean has(int index) {
            return index >= 0 && index < length && index < MOST_LINE;
        }

        char signAt(int index) {
            return has(index) ? signs[index] : (char) 0;
        }

        void put(char sign) {
            if (length >= 0 && length < MOST_LINE) {
                signs[length] = sign;
                length++;
            }
        }

        void putAll(String signs) {
            for (int index = 0; index < signs.length(); index++) {
                put(signs.charAt(index));
            }
        }

        // Eighteen digits are more than any fraction here has.
        void putNumber(long number) {
            long unit = 1;
            for (int digits = 1; digits < 18 && unit <= number / 10; digits++) {
                unit *= 10;
            }
            for (; unit > 0; unit /= 10) {
                put((char) ('0' + number / unit % 10));
            }
        }
    }
}
