import java.util.ArrayList;
import java.util.List;

/**
 * The document's words put down as plainly as they can be, to compare ViewGarden with: every
 * cell is cut with the line of sight by itself, in fractions, and nothing is kept but lists.
 */
final class PlainGarden {
    /** A fraction with a denominator above 0. */
    private record Fraction(long top, long bottom) {
        static Fraction of(long top, long bottom) {
            return bottom < 0 ? new Fraction(-top, -bottom) : new Fraction(top, bottom);
        }

        boolean below(Fraction other) {
            return top * other.bottom < other.top * bottom;
        }

        static Fraction least(Fraction a, Fraction b) {
            return a.below(b) ? a : b;
        }

        static Fraction greatest(Fraction a, Fraction b) {
            return a.below(b) ? b : a;
        }

        int floor() {
            return (int) Math.floorDiv(top, bottom);
        }
    }

    private record Cell(int x, int y) {
    }

    private record Feature(Cell cell, int height, int worth) {
    }

    private record Wish(Cell cell, int feature) {
    }

    private int columns = 8;
    private int rows = 8;
    private int[][] kinds = new int[8][8];
    private int[][] hedges = new int[8][8];
    private final List<Feature> features = new ArrayList<>();
    private final List<Cell> walk = new ArrayList<>();
    private final List<Wish> wishes = new ArrayList<>();

    int reset(int newColumns, int newRows) {
        if (newColumns < 3 || newColumns > 16 || newRows < 3 || newRows > 12) {
            return -4;
        }
        columns = newColumns;
        rows = newRows;
        kinds = new int[columns][rows];
        hedges = new int[columns][rows];
        features.clear();
        walk.clear();
        wishes.clear();
        return columns * rows;
    }

    private boolean inside(int x, int y) {
        return 0 <= x && x < columns && 0 <= y && y < rows;
    }

    private boolean place(Cell c) {
        int kind = kinds[c.x][c.y];
        return kind == 0 || kind == 1 || kind == 3;
    }

    int lay(int x, int y, int kind) {
        if (!inside(x, y)) {
            return -1;
        }
        if (kind != 0 && kind != 1 && kind != 3) {
            return -4;
        }
        if (kinds[x][y] == 4) {
            return -6;
        }
        int before = kinds[x][y];
        kinds[x][y] = kind;
        hedges[x][y] = 0;
        return before;
    }

    int plant(int x, int y, int height) {
        if (!inside(x, y)) {
            return -1;
        }
        if (height < 1 || height > 40) {
            return -4;
        }
        if (kinds[x][y] == 4) {
            return -6;
        }
        int before = hedges[x][y];
        kinds[x][y] = 2;
        hedges[x][y] = height;
        return before;
    }

    int addFeature(int x, int y, int height, int worth) {
        if (!inside(x, y)) {
            return -1;
        }
        if (height < 0 || height > 60 || worth < 1 || worth > 9) {
            return -4;
        }
        if (kinds[x][y] == 4) {
            return -6;
        }
        if (features.size() == 10) {
            return -5;
        }
        kinds[x][y] = 4;
        hedges[x][y] = 0;
        features.add(new Feature(new Cell(x, y), height, worth));
        return features.size() - 1;
    }

    int kind(int x, int y) {
        return inside(x, y) ? kinds[x][y] : -1;
    }

    int height(int x, int y) {
        if (!inside(x, y)) {
            return -1;
        }
        for (Feature f : features) {
            if (f.cell.equals(new Cell(x, y))) {
                return f.height;
            }
        }
        return hedges[x][y];
    }

    int count(int what) {
        int planted = 0;
        for (int[] column : kinds) {
            for (int kind : column) {
                planted += kind == 2 ? 1 : 0;
            }
        }
        return what == 0 ? features.size() : what == 1 ? planted : what == 2 ? walk.size() : what == 3 ? wishes.size() : -4;
    }

    private static final Fraction START = new Fraction(0, 1);
    private static final Fraction END = new Fraction(1, 1);

    /** The part of the line in which its coordinate is between two borders; null if there is none. */
    private static Fraction[] between(int from, int to, int cell) {
        int way = 2 * (to - from);
        int first = 2 * cell - (2 * from + 1);
        int second = first + 2;
        if (way == 0) {
            return first < 0 && second > 0 ? new Fraction[] {START, END} : null;
        }
        Fraction a = Fraction.of(first, way);
        Fraction b = Fraction.of(second, way);
        return new Fraction[] {Fraction.least(a, b), Fraction.greatest(a, b)};
    }

    /** The clearance above a cell; null if the cell is not crossed. */
    private Fraction clearance(Cell from, Feature to, int x, int y) {
        Fraction[] across = between(from.x, to.cell.x, x);
        Fraction[] down = between(from.y, to.cell.y, y);
        if (across == null || down == null) {
            return null;
        }
        Fraction in = Fraction.greatest(START, Fraction.greatest(across[0], down[0]));
        Fraction out = Fraction.least(END, Fraction.least(across[1], down[1]));
        if (!in.below(out)) {
            return null;
        }
        return Fraction.least(heightAt(from, to, in), heightAt(from, to, out));
    }

    private Fraction heightAt(Cell from, Feature to, Fraction t) {
        int eye = kinds[from.x][from.y] == 3 ? 11 : 16;
        return new Fraction(eye * t.bottom + (to.height - eye) * t.top, t.bottom);
    }

    /** The heights of the hedges after clipping for a view, from given heights. */
    private int[][] clipped(Cell from, Feature to, int[][] heights) {
        int[][] result = new int[columns][];
        for (int x = 0; x < columns; x++) {
            result[x] = heights[x].clone();
            for (int y = 0; y < rows; y++) {
                if (heights[x][y] > 0) {
                    Fraction clearance = clearance(from, to, x, y);
                    if (clearance != null && clearance.below(new Fraction(heights[x][y], 1))) {
                        result[x][y] = clearance.floor();
                    }
                }
            }
        }
        return result;
    }

    private List<Cell> differences(int[][] a, int[][] b) {
        List<Cell> found = new ArrayList<>();
        for (int y = 0; y < rows; y++) {
            for (int x = 0; x < columns; x++) {
                if (a[x][y] != b[x][y]) {
                    found.add(new Cell(x, y));
                }
            }
        }
        return found;
    }

    private int cost(int[][] before, int[][] after) {
        int sum = 0;
        for (Cell c : differences(before, after)) {
            sum += before[c.x][c.y] - after[c.x][c.y];
        }
        return sum;
    }

    private boolean visible(Cell from, int feature, int[][] heights) {
        return place(from) && differences(heights, clipped(from, features.get(feature), heights)).isEmpty();
    }

    private int error(int x, int y, int feature) {
        if (!inside(x, y)) {
            return -1;
        }
        if (feature < 0 || feature >= features.size()) {
            return -2;
        }
        return place(new Cell(x, y)) ? 0 : -3;
    }

    int sees(int x, int y, int feature) {
        int error = error(x, y, feature);
        return error != 0 ? error : visible(new Cell(x, y), feature, hedges) ? 1 : 0;
    }

    private int visibleSet(Cell from) {
        int set = 0;
        for (int f = 0; f < features.size(); f++) {
            set += visible(from, f, hedges) ? 1 << f : 0;
        }
        return set;
    }

    int seen(int x, int y) {
        if (!inside(x, y)) {
            return -1;
        }
        return place(new Cell(x, y)) ? visibleSet(new Cell(x, y)) : -3;
    }

    private List<Cell> blocking(int x, int y, int feature) {
        return differences(hedges, clipped(new Cell(x, y), features.get(feature), hedges));
    }

    int blockers(int x, int y, int feature) {
        int error = error(x, y, feature);
        return error != 0 ? error : blocking(x, y, feature).size();
    }

    int clipCost(int x, int y, int feature) {
        int error = error(x, y, feature);
        return error != 0 ? error : cost(hedges, clipped(new Cell(x, y), features.get(feature), hedges));
    }

    int clip(int x, int y, int feature) {
        int error = error(x, y, feature);
        if (error != 0) {
            return error;
        }
        int[][] after = clipped(new Cell(x, y), features.get(feature), hedges);
        int cost = cost(hedges, after);
        for (Cell c : differences(hedges, after)) {
            kinds[c.x][c.y] = after[c.x][c.y] == 0 ? 0 : 2;
        }
        hedges = after;
        return cost;
    }

    int opening(int x, int y, int feature) {
        int error = error(x, y, feature);
        if (error != 0) {
            return error;
        }
        List<Cell> found = blocking(x, y, feature);
        return found.size() == 1 ? 16 * found.get(0).y + found.get(0).x : -7;
    }

    int walkTo(int x, int y) {
        if (!inside(x, y)) {
            return -1;
        }
        Cell c = new Cell(x, y);
        if (!place(c)) {
            return -3;
        }
        if (!walk.isEmpty()) {
            Cell last = walk.get(walk.size() - 1);
            boolean sameRow = last.y == y && (last.x == x - 1 || last.x == x + 1);
            boolean sameColumn = last.x == x && (last.y == y - 1 || last.y == y + 1);
            if (!sameRow && !sameColumn) {
                return -6;
            }
        }
        if (walk.size() == 40) {
            return -5;
        }
        walk.add(c);
        return walk.size();
    }

    int walkBack(int n) {
        if (n < 0 || n > walk.size()) {
            return -4;
        }
        for (int i = 0; i < n; i++) {
            walk.remove(walk.size() - 1);
        }
        return walk.size();
    }

    private int firstPlace(int feature, int[][] heights) {
        for (int i = 0; i < walk.size(); i++) {
            if (visible(walk.get(i), feature, heights)) {
                return i;
            }
        }
        return -7;
    }

    int appears(int feature) {
        return feature < 0 || feature >= features.size() ? -2 : firstPlace(feature, hedges);
    }

    int surprises(int place) {
        if (place < 0 || place >= walk.size()) {
            return -4;
        }
        int set = 0;
        for (int f = 0; f < features.size(); f++) {
            set += firstPlace(f, hedges) == place ? 1 << f : 0;
        }
        return set;
    }

    int shown(int k) {
        if (k < 0) {
            return -4;
        }
        List<int[]> order = new ArrayList<>();
        for (int f = 0; f < features.size(); f++) {
            int at = firstPlace(f, hedges);
            if (at >= 0) {
                order.add(new int[] {at, f});
            }
        }
        order.sort((a, b) -> a[0] != b[0] ? a[0] - b[0] : a[1] - b[1]);
        return k < order.size() ? order.get(k)[1] : -7;
    }

    int wish(int x, int y, int feature) {
        int error = error(x, y, feature);
        if (error != 0) {
            return error;
        }
        if (wishes.size() == 10) {
            return -5;
        }
        wishes.add(new Wish(new Cell(x, y), feature));
        return wishes.size() - 1;
    }

    int clearWishes() {
        int before = wishes.size();
        wishes.clear();
        return before;
    }

    private int[][] fulfilled() {
        int[][] result = new int[columns][];
        for (int x = 0; x < columns; x++) {
            result[x] = hedges[x].clone();
        }
        for (Wish w : wishes) {
            if (place(w.cell)) {
                int[][] alone = clipped(w.cell, features.get(w.feature), hedges);
                for (Cell c : differences(hedges, alone)) {
                    result[c.x][c.y] = Math.min(result[c.x][c.y], alone[c.x][c.y]);
                }
            }
        }
        return result;
    }

    int wishCost() {
        return cost(hedges, fulfilled());
    }

    int wishHeight(int x, int y) {
        if (!inside(x, y)) {
            return -1;
        }
        return kinds[x][y] == 2 ? fulfilled()[x][y] : -7;
    }

    int spoiled() {
        int[][] then = fulfilled();
        int found = 0;
        for (int f = 0; f < features.size(); f++) {
            int before = firstPlace(f, hedges);
            int after = firstPlace(f, then);
            found += after >= 0 && (before < 0 || after < before) ? 1 : 0;
        }
        return found;
    }

    private double value(Cell from) {
        double sum = 0.0;
        for (int f = 0; f < features.size(); f++) {
            Feature feature = features.get(f);
            if (visible(from, f, hedges)) {
                int dx = feature.cell.x - from.x;
                int dy = feature.cell.y - from.y;
                sum += (double) (feature.worth * feature.height) / (dx * dx + dy * dy);
            }
        }
        return sum;
    }

    double prospect(int x, int y) {
        return inside(x, y) && place(new Cell(x, y)) ? value(new Cell(x, y)) : -1.0;
    }

    int bestPlace(int kind) {
        if (kind != 0 && kind != 1 && kind != 3) {
            return -4;
        }
        int best = -7;
        double greatest = -1.0;
        for (int y = 0; y < rows; y++) {
            for (int x = 0; x < columns; x++) {
                if (kinds[x][y] == kind && value(new Cell(x, y)) > greatest) {
                    greatest = value(new Cell(x, y));
                    best = 16 * y + x;
                }
            }
        }
        return best;
    }

    float meanProspect() {
        if (walk.isEmpty()) {
            return -1.0f;
        }
        double sum = 0.0;
        for (Cell c : walk) {
            sum += place(c) ? value(c) : 0.0;
        }
        return (float) (sum / walk.size());
    }
}
