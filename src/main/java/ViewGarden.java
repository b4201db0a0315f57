import java.util.Arrays;

/**
 * A planner for a garden of views: hedges of different heights hide features from places in a
 * garden of square cells.
 */
public final class ViewGarden {
    /** There is no such cell. */
    public static final int NO_SUCH_CELL = -1;
    /** There is no feature with this number. */
    public static final int NO_SUCH_FEATURE = -2;
    /** The cell cannot be a place. */
    public static final int NO_PLACE = -3;
    /** Another argument is out of range. */
    public static final int BAD_VALUE = -4;
    /** There is no more room. */
    public static final int FULL = -5;
    /** There is a feature in the cell, or the cell is not a neighbour. */
    public static final int NOT_POSSIBLE = -6;
    /** There is no such thing; not an error. */
    public static final int NONE = -7;

    private static final int OK = 0;

    private static final int LAWN = 0;
    private static final int PATH = 1;
    private static final int HEDGE = 2;
    private static final int SEAT = 3;
    private static final int FEATURE = 4;

    private static final int FIRST_SIZE = 8;
    private static final int MIN_SIZE = 3;
    private static final int MAX_COLUMNS = 16;
    private static final int MAX_ROWS = 12;
    private static final int MAX_CELLS = MAX_COLUMNS * MAX_ROWS;

    private static final int MAX_HEDGE_HEIGHT = 40;
    private static final int MAX_FEATURE_HEIGHT = 60;
    private static final int MAX_WORTH = 9;
    private static final int MAX_FEATURES = 10;
    private static final int MAX_WALK = 40;
    private static final int MAX_WISHES = 10;

    private static final int STANDING_EYE = 16;
    private static final int SITTING_EYE = 11;

    /** No line of sight crosses more cells: each step goes on by a column, a row or both. */
    private static final int MAX_CROSSED = MAX_COLUMNS + MAX_ROWS;

    private int columns;
    private int rows;

    // Cells are numbered 16 * row + column, as opening and bestPlace answer them; so a cell
    // keeps its number whatever the size of the garden is.
    private final int[] kinds = new int[MAX_CELLS];
    private final int[] heights = new int[MAX_CELLS];

    private int featureCount;
    private final int[] featureCells = new int[MAX_FEATURES];
    private final int[] featureWorths = new int[MAX_FEATURES];

    private int walkLength;
    private final int[] walkCells = new int[MAX_WALK];

    private int wishCount;
    private final int[] wishCells = new int[MAX_WISHES];
    private final int[] wishFeatures = new int[MAX_WISHES];

    /** Heights as they would be after a clipping that is only considered; used again by each call. */
    private final int[] plannedHeights = new int[MAX_CELLS];

    private final Sightline line = new Sightline();

    /** Creates a garden of 8 columns and 8 rows, all lawn, without features, walk and wishes. */
    public ViewGarden() {
        startAnew(FIRST_SIZE, FIRST_SIZE);
    }

    // ---- the garden

    public int reset(int columns, int rows) {
        if (!inRange(columns, MIN_SIZE, MAX_COLUMNS) || !inRange(rows, MIN_SIZE, MAX_ROWS)) {
            return BAD_VALUE;
        }
        startAnew(columns, rows);
        return columns * rows;
    }

    public int lay(int x, int y, int kind) {
        int error = changeError(x, y, isPlaceKind(kind));
        if (error != OK) {
            return error;
        }
        int cell = cellAt(x, y);
        int previous = kinds[cell];
        setCell(cell, kind, 0);
        return previous;
    }

    public int plant(int x, int y, int height) {
        int error = changeError(x, y, inRange(height, 1, MAX_HEDGE_HEIGHT));
        if (error != OK) {
            return error;
        }
        int cell = cellAt(x, y);
        int previous = heights[cell];
        setCell(cell, HEDGE, height);
        return previous;
    }

    public int addFeature(int x, int y, int height, int worth) {
        boolean good = inRange(height, 0, MAX_FEATURE_HEIGHT) && inRange(worth, 1, MAX_WORTH);
        int error = changeError(x, y, good);
        if (error != OK) {
            return error;
        }
        if (featureCount >= MAX_FEATURES) {
            return FULL;
        }
        int cell = cellAt(x, y);
        setCell(cell, FEATURE, height);
        featureCells[featureCount] = cell;
        featureWorths[featureCount] = worth;
        featureCount++;
        return featureCount - 1;
    }

    public int kind(int x, int y) {
        return hasCell(x, y) ? kinds[cellAt(x, y)] : NO_SUCH_CELL;
    }

    public int height(int x, int y) {
        return hasCell(x, y) ? heights[cellAt(x, y)] : NO_SUCH_CELL;
    }

    public int count(int what) {
        switch (what) {
            case 0:
                return featureCount;
            case 1:
                return countHedges();
            case 2:
                return walkLength;
            case 3:
                return wishCount;
            default:
                return BAD_VALUE;
        }
    }

    // ---- views

    public int sees(int x, int y, int feature) {
        int error = viewError(x, y, feature);
        if (error != OK) {
            return error;
        }
        return isVisible(cellAt(x, y), feature, heights) ? 1 : 0;
    }

    public int seen(int x, int y) {
        int error = placeError(x, y);
        if (error != OK) {
            return error;
        }
        return visibleFrom(cellAt(x, y));
    }

    public int blockers(int x, int y, int feature) {
        int error = viewError(x, y, feature);
        if (error != OK) {
            return error;
        }
        aim(cellAt(x, y), feature);
        int found = 0;
        while (found < MAX_CROSSED && findNextBlocker(heights)) {
            found++;
        }
        return found;
    }

    public int clipCost(int x, int y, int feature) {
        int error = viewError(x, y, feature);
        if (error != OK) {
            return error;
        }
        planFromPresentHeights();
        return lowerBlockers(cellAt(x, y), feature, plannedHeights);
    }

    public int clip(int x, int y, int feature) {
        int error = viewError(x, y, feature);
        if (error != OK) {
            return error;
        }
        int cost = lowerBlockers(cellAt(x, y), feature, heights);
        turnBareHedgesIntoLawn();
        return cost;
    }

    public int opening(int x, int y, int feature) {
        int error = viewError(x, y, feature);
        if (error != OK) {
            return error;
        }
        aim(cellAt(x, y), feature);
        if (!findNextBlocker(heights)) {
            return NONE;
        }
        int first = line.crossedCell();
        return findNextBlocker(heights) ? NONE : first;
    }

    // ---- the walk

    public int walkTo(int x, int y) {
        int error = placeError(x, y);
        if (error != OK) {
            return error;
        }
        int cell = cellAt(x, y);
        if (walkLength > 0 && !areNeighbours(walkCells[walkLength - 1], cell)) {
            return NOT_POSSIBLE;
        }
        if (walkLength >= MAX_WALK) {
            return FULL;
        }
        walkCells[walkLength] = cell;
        walkLength++;
        return walkLength;
    }

    public int walkBack(int n) {
        if (!inRange(n, 0, walkLength)) {
            return BAD_VALUE;
        }
        walkLength -= n;
        return walkLength;
    }

    public int appears(int feature) {
        if (!hasFeature(feature)) {
            return NO_SUCH_FEATURE;
        }
        return firstAppearance(feature, heights);
    }

    public int surprises(int place) {
        if (place < 0 || place >= walkLength) {
            return BAD_VALUE;
        }
        int earlier = 0;
        for (int i = 0; i < place; i++) {
            earlier |= visibleFrom(walkCells[i]);
        }
        return visibleFrom(walkCells[place]) & ~earlier;
    }

    public int shown(int k) {
        if (k < 0) {
            return BAD_VALUE;
        }
        int appeared = 0;
        int before = 0;
        for (int i = 0; i < walkLength; i++) {
            int fresh = visibleFrom(walkCells[i]) & ~appeared;
            for (int feature = 0; feature < featureCount; feature++) {
                if ((fresh & (1 << feature)) != 0) {
                    if (before == k) {
                        return feature;
                    }
                    before++;
                }
            }
            appeared |= fresh;
        }
        return NONE;
    }

    // ---- wishes

    public int wish(int x, int y, int feature) {
        int error = viewError(x, y, feature);
        if (error != OK) {
            return error;
        }
        if (wishCount >= MAX_WISHES) {
            return FULL;
        }
        wishCells[wishCount] = cellAt(x, y);
        wishFeatures[wishCount] = feature;
        wishCount++;
        return wishCount - 1;
    }

    public int clearWishes() {
        int previous = wishCount;
        wishCount = 0;
        return previous;
    }

    public int wishCost() {
        return planWishes();
    }

    public int wishHeight(int x, int y) {
        if (!hasCell(x, y)) {
            return NO_SUCH_CELL;
        }
        int cell = cellAt(x, y);
        if (kinds[cell] != HEDGE) {
            return NONE;
        }
        planWishes();
        return plannedHeights[cell];
    }

    public int spoiled() {
        planWishes();
        int found = 0;
        for (int feature = 0; feature < featureCount; feature++) {
            int now = firstAppearance(feature, heights);
            int then = firstAppearance(feature, plannedHeights);
            if (then != NONE && (now == NONE || then < now)) {
                found++;
            }
        }
        return found;
    }

    // ---- rating

    public double prospect(int x, int y) {
        if (placeError(x, y) != OK) {
            return -1.0;
        }
        return prospectOf(cellAt(x, y));
    }

    public int bestPlace(int kind) {
        if (!isPlaceKind(kind)) {
            return BAD_VALUE;
        }
        int best = NONE;
        double greatest = -1.0;
        // The order of the numbers is the order by row, then by column; cells outside a
        // smaller garden are lawn too, so they are passed over by their place.
        for (int cell = 0; cell < MAX_CELLS; cell++) {
            if (kinds[cell] == kind && hasCell(columnOf(cell), rowOf(cell))) {
                double value = prospectOf(cell);
                if (value > greatest) {
                    greatest = value;
                    best = cell;
                }
            }
        }
        return best;
    }

    public float meanProspect() {
        if (walkLength <= 0) {
            return -1.0f;
        }
        double sum = 0.0;
        for (int i = 0; i < walkLength; i++) {
            if (isPlace(walkCells[i])) {
                sum += prospectOf(walkCells[i]);
            }
        }
        return (float) (sum / walkLength);
    }

    // ---- cells

    private void startAnew(int newColumns, int newRows) {
        columns = newColumns;
        rows = newRows;
        Arrays.fill(kinds, LAWN);
        Arrays.fill(heights, 0);
        featureCount = 0;
        walkLength = 0;
        wishCount = 0;
    }

    private static boolean inRange(int value, int least, int greatest) {
        return value >= least && value <= greatest;
    }

    private boolean hasCell(int x, int y) {
        return x >= 0 && x < columns && y >= 0 && y < rows;
    }

    private static int cellAt(int x, int y) {
        return MAX_COLUMNS * y + x;
    }

    private static int columnOf(int cell) {
        return cell % MAX_COLUMNS;
    }

    private static int rowOf(int cell) {
        return cell / MAX_COLUMNS;
    }

    private static boolean isCellNumber(int cell) {
        return cell >= 0 && cell < MAX_CELLS;
    }

    private static boolean areNeighbours(int one, int other) {
        int across = Math.abs(columnOf(one) - columnOf(other));
        int down = Math.abs(rowOf(one) - rowOf(other));
        return across + down == 1;
    }

    private static boolean isPlaceKind(int kind) {
        return kind == LAWN || kind == PATH || kind == SEAT;
    }

    private boolean isPlace(int cell) {
        return isCellNumber(cell) && isPlaceKind(kinds[cell]);
    }

    private boolean hasFeature(int feature) {
        return feature >= 0 && feature < featureCount;
    }

    private void setCell(int cell, int kind, int height) {
        kinds[cell] = kind;
        heights[cell] = height;
    }

    private int countHedges() {
        int found = 0;
        for (int kind : kinds) {
            if (kind == HEDGE) {
                found++;
            }
        }
        return found;
    }

    // ---- the checks, in the order of the document

    private int changeError(int x, int y, boolean goodValues) {
        if (!hasCell(x, y)) {
            return NO_SUCH_CELL;
        }
        if (!goodValues) {
            return BAD_VALUE;
        }
        return kinds[cellAt(x, y)] == FEATURE ? NOT_POSSIBLE : OK;
    }

    private int placeError(int x, int y) {
        if (!hasCell(x, y)) {
            return NO_SUCH_CELL;
        }
        return isPlace(cellAt(x, y)) ? OK : NO_PLACE;
    }

    private int viewError(int x, int y, int feature) {
        if (!hasCell(x, y)) {
            return NO_SUCH_CELL;
        }
        return hasFeature(feature) ? placeError(x, y) : NO_SUCH_FEATURE;
    }

    // ---- sight and clipping

    private void aim(int place, int feature) {
        int target = featureCells[feature];
        int eye = kinds[place] == SEAT ? SITTING_EYE : STANDING_EYE;
        line.aim(place, eye, target, heights[target]);
    }

    /** Goes on along the line to the next hedge that would block it if it had its height here. */
    private boolean findNextBlocker(int[] hedgeHeights) {
        for (int steps = 0; steps < MAX_CROSSED && line.advance(); steps++) {
            int cell = line.crossedCell();
            // The heights are integers, so a hedge is above the clearance just if it is above
            // the greatest integer in it.
            if (isCellNumber(cell) && kinds[cell] == HEDGE
                    && hedgeHeights[cell] > line.wholeClearance()) {
                return true;
            }
        }
        return false;
    }

    private boolean isVisible(int place, int feature, int[] hedgeHeights) {
        aim(place, feature);
        return !findNextBlocker(hedgeHeights);
    }

    /** The features that can be seen, as a bit set; none from a cell that cannot be a place. */
    private int visibleFrom(int cell) {
        int set = 0;
        if (isPlace(cell)) {
            for (int feature = 0; feature < featureCount; feature++) {
                if (isVisible(cell, feature, heights)) {
                    set |= 1 << feature;
                }
            }
        }
        return set;
    }

    private int lowerBlockers(int place, int feature, int[] hedgeHeights) {
        aim(place, feature);
        int cost = 0;
        for (int found = 0; found < MAX_CROSSED && findNextBlocker(hedgeHeights); found++) {
            int cell = line.crossedCell();
            int lowered = line.wholeClearance();
            cost += hedgeHeights[cell] - lowered;
            hedgeHeights[cell] = lowered;
        }
        return cost;
    }

    private void turnBareHedgesIntoLawn() {
        for (int cell = 0; cell < MAX_CELLS; cell++) {
            if (kinds[cell] == HEDGE && heights[cell] == 0) {
                kinds[cell] = LAWN;
            }
        }
    }

    // ---- walk, wishes and rating

    private int firstAppearance(int feature, int[] hedgeHeights) {
        for (int i = 0; i < walkLength; i++) {
            if (isPlace(walkCells[i]) && isVisible(walkCells[i], feature, hedgeHeights)) {
                return i;
            }
        }
        return NONE;
    }

    private void planFromPresentHeights() {
        System.arraycopy(heights, 0, plannedHeights, 0, MAX_CELLS);
    }

    /**
     * Puts the heights with all wishes fulfilled into the plan and returns their cost. To lower
     * what one wish leaves for the next one gives the least of the heights, as each wish has
     * its clearances from the line alone.
     */
    private int planWishes() {
        planFromPresentHeights();
        int cost = 0;
        for (int i = 0; i < wishCount; i++) {
            if (isPlace(wishCells[i])) {
                cost += lowerBlockers(wishCells[i], wishFeatures[i], plannedHeights);
            }
        }
        return cost;
    }

    private double prospectOf(int place) {
        double sum = 0.0;
        for (int feature = 0; feature < featureCount; feature++) {
            int target = featureCells[feature];
            int across = columnOf(target) - columnOf(place);
            int down = rowOf(target) - rowOf(place);
            int squareOfDistance = across * across + down * down;
            if (squareOfDistance > 0 && isVisible(place, feature, heights)) {
                sum += (double) (featureWorths[feature] * heights[target]) / squareOfDistance;
            }
        }
        return sum;
    }

    /**
     * A line of sight that is followed from cell to cell. How far it has come is counted in
     * parts of its whole length, so small that each border between cells is a whole number of
     * parts away: there are 2 * across * down of them.
     */
    private static final class Sightline {
        private int start;
        private int eye;
        private int top;
        private int across;
        private int down;
        private int columnStep;
        private int rowStep;

        private int columnsGone;
        private int rowsGone;
        private int entered;
        private int left;
        /** Below 0 if the next column comes before the next row, 0 if they come in a corner. */
        private int nextBorder;

        void aim(int from, int eyeHeight, int to, int topHeight) {
            int columnsBetween = columnOf(to) - columnOf(from);
            int rowsBetween = rowOf(to) - rowOf(from);
            start = from;
            eye = eyeHeight;
            top = topHeight;
            across = Math.abs(columnsBetween);
            down = Math.abs(rowsBetween);
            columnStep = columnsBetween < 0 ? -1 : 1;
            rowStep = rowsBetween < 0 ? -MAX_COLUMNS : MAX_COLUMNS;
            columnsGone = 0;
            rowsGone = 0;
            entered = 0;
            lookAhead();
        }

        /** Goes on to the next cell; false if this is the last one, in which the line ends. */
        boolean advance() {
            if (hasArrived()) {
                return false;
            }
            // Through a corner the line goes on by both at once: the two cells beside the
            // corner have no point of it in their interior.
            if (nextBorder <= 0) {
                columnsGone++;
            }
            if (nextBorder >= 0) {
                rowsGone++;
            }
            entered = left;
            lookAhead();
            return !hasArrived();
        }

        int crossedCell() {
            return start + columnsGone * columnStep + rowsGone * rowStep;
        }

        /** The greatest integer that is not greater than the clearance above the crossed cell. */
        int wholeClearance() {
            int lowest = top >= eye ? entered : left;
            int parts = 2 * Math.max(1, across) * Math.max(1, down);
            return Math.floorDiv(eye * parts + (top - eye) * lowest, parts);
        }

        private boolean hasArrived() {
            return columnsGone >= across && rowsGone >= down;
        }

        private void lookAhead() {
            int halfColumns = 2 * columnsGone + 1;
            int halfRows = 2 * rowsGone + 1;
            // With across 0 the difference is above 0, so that a line straight down never comes
            // to the next column; with down 0 it is below 0.
            nextBorder = halfColumns * down - halfRows * across;
            left = nextBorder <= 0
                    ? halfColumns * Math.max(1, down)
                    : halfRows * Math.max(1, across);
        }
    }
}
