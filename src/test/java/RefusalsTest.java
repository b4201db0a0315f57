import java.util.ArrayList;
import java.util.Arrays;
import java.util.List;

/**
 * "Where several errors can apply, the order of the @return line is the order of the checks." and
 * "A call that reports an error changes nothing.": each call with every mixture of faults, on an
 * empty, an ordinary and a full garden; the first error of its row that applies is due, and the
 * picture of the garden is the one before.
 */
public final class RefusalsTest {
    private static final Check CHECK = new Check("refusals");
    private static final int LEAST = Integer.MIN_VALUE;
    private static final int GREATEST = Integer.MAX_VALUE;

    private static final int CELL = ViewGarden.NO_SUCH_CELL;
    private static final int FEATURE = ViewGarden.NO_SUCH_FEATURE;
    private static final int PLACE = ViewGarden.NO_PLACE;
    private static final int VALUE = ViewGarden.BAD_VALUE;
    private static final int FULL = ViewGarden.FULL;
    private static final int POSSIBLE = ViewGarden.NOT_POSSIBLE;
    private static final int FINE = 0;

    private static final int COLUMNS = 6;
    private static final int ROWS = 5;

    /** Beside the garden on all sides; some have the number of a cell in it, by 16 * row + column or by a wrap-around. */
    private static final int[][] NOWHERE = {{-1, 0}, {0, -1}, {COLUMNS, 0}, {0, ROWS}, {COLUMNS, ROWS}, {-1, -1},
        {16, -1}, {17, 0}, {-16, 1}, {-15, 3}, {15, 0}, {0, 11}, {16, 0}, {0, 12}, {0, 1 << 28}, {1, -(1 << 28)},
        {LEAST, 0}, {0, LEAST}, {GREATEST, 0}, {0, GREATEST}, {LEAST, LEAST}, {GREATEST, GREATEST}, {LEAST, GREATEST}};

    private static final int[] BAD_FEATURES = {-1, 10, 11, 16, 32, 40, LEAST, GREATEST};

    private record Site(int x, int y, int kind, boolean inside) {
        boolean canBePlace() {
            return inside && kind != 2 && kind != 4;
        }
    }

    private interface Call {
        double on(ViewGarden g);
    }

    private interface AtCell {
        int on(ViewGarden g, int x, int y);
    }

    private interface AtCellWithValue {
        int on(ViewGarden g, int x, int y, int value);
    }

    private enum State { EMPTY, ORDINARY, FULL }

    private final State state;
    private final String before;
    private final int features;
    private final int places;

    private RefusalsTest(State state) {
        this.state = state;
        ViewGarden g = make();
        features = g.count(0);
        places = g.count(2);
        before = Picture.of(g);
    }

    public static void main(String[] args) {
        for (State state : State.values()) {
            RefusalsTest test = new RefusalsTest(state);
            test.whatTheStateHolds();
            test.changes();
            test.addFeature();
            test.views();
            test.cells();
            test.walkTo();
            test.singleValues();
        }
        CHECK.end();
    }

    // ---- the gardens

    private ViewGarden make() {
        ViewGarden g = new ViewGarden();
        g.reset(COLUMNS, ROWS);
        if (state == State.ORDINARY) {
            g.addFeature(5, 4, 30, 2);
            g.addFeature(0, 4, 0, 9);
            furnish(g);
            walk(g, 3);
            wish(g, 2);
        } else if (state == State.FULL) {
            for (int i = 0; i < 5; i++) {
                g.addFeature(5, 4 - i, 7 * i, i + 1);
                g.addFeature(i, 4, 60 - 7 * i, 9 - i);
            }
            furnish(g);
            walk(g, 40);
            wish(g, 10);
        }
        return g;
    }

    private static void furnish(ViewGarden g) {
        g.plant(2, 1, 25);
        g.plant(1, 3, 40);
        g.plant(4, 2, 1);
        g.plant(3, 3, 17);
        g.lay(0, 1, 1);
        g.lay(0, 2, 3);
    }

    /** To and fro, so that the last place is the corner (0, 0) for 3 places and (1, 0) for 40. */
    private static void walk(ViewGarden g, int length) {
        for (int i = 0; i < length; i++) {
            g.walkTo(i % 2, 0);
        }
    }

    private static void wish(ViewGarden g, int number) {
        int there = g.count(0);
        for (int i = 0; i < number; i++) {
            g.wish(i % 2, i % 3, i % there);
        }
    }

    private void whatTheStateHolds() {
        int[][] due = {{0, 0, 0, 0}, {2, 4, 3, 2}, {10, 4, 40, 10}};
        for (int what = 0; what < 4; what++) {
            CHECK.due(state + " count(" + what + ")", make().count(what), due[state.ordinal()][what]);
        }
    }

    private List<Site> sites() {
        List<Site> sites = new ArrayList<>();
        for (int[] cell : NOWHERE) {
            sites.add(new Site(cell[0], cell[1], -1, false));
        }
        ViewGarden g = make();
        for (int[] cell : new int[][] {{0, 0}, {0, 1}, {0, 2}, {1, 0}, {2, 0}, {1, 1}, {2, 1}, {3, 3}, {0, 4}, {5, 4}}) {
            sites.add(new Site(cell[0], cell[1], g.kind(cell[0], cell[1]), true));
        }
        return sites;
    }

    // ---- the check of one call

    private static int firstOf(int[] row, int[] faults) {
        for (int error : row) {
            for (int fault : faults) {
                if (fault == error) {
                    return error;
                }
            }
        }
        return FINE;
    }

    private void check(String call, int[] row, Call made, int... faults) {
        ViewGarden g = make();
        double got = made.on(g);
        int due = firstOf(row, faults);
        if (due == FINE) {
            CHECK.due(state + " " + call + " is refused by " + got, got >= 0 || got == ViewGarden.NONE ? 1 : 0, 1);
        } else {
            CHECK.dueDouble(state + " " + call, got, due);
            CHECK.dueText(state + " after " + call, Picture.of(g), before);
        }
    }

    private static String text(String name, int... arguments) {
        StringBuilder s = new StringBuilder(name).append('(');
        for (int i = 0; i < arguments.length; i++) {
            s.append(i == 0 ? "" : ", ").append(arguments[i]);
        }
        return s.append(')').toString();
    }

    private static int faultIf(boolean wrong, int error) {
        return wrong ? error : FINE;
    }

    private static boolean within(int value, int least, int greatest) {
        return value >= least && value <= greatest;
    }

    // ---- the garden

    private void changes() {
        for (int kind : new int[] {LEAST, -1, 0, 1, 2, 3, 4, 5, 256, GREATEST}) {
            boolean bad = kind != 0 && kind != 1 && kind != 3;
            change("lay", kind, bad, ViewGarden::lay);
        }
        for (int height : new int[] {LEAST, -1, 0, 1, 40, 41, 257, GREATEST}) {
            change("plant", height, !within(height, 1, 40), ViewGarden::plant);
        }
    }

    private void change(String name, int value, boolean bad, AtCellWithValue call) {
        int[] row = {CELL, VALUE, POSSIBLE};
        for (Site s : sites()) {
            check(text(name, s.x, s.y, value), row, g -> call.on(g, s.x, s.y, value),
                    faultIf(!s.inside, CELL), faultIf(bad, VALUE), faultIf(s.kind == 4, POSSIBLE));
        }
    }

    private void addFeature() {
        for (int height : new int[] {LEAST, -1, 0, 60, 61, GREATEST}) {
            for (int worth : new int[] {LEAST, 0, 1, 9, 10, GREATEST}) {
                addFeature(height, worth);
            }
        }
    }

    private void addFeature(int height, int worth) {
        int[] row = {CELL, VALUE, POSSIBLE, FULL};
        boolean bad = !within(height, 0, 60) || !within(worth, 1, 9);
        for (Site s : sites()) {
            check(text("addFeature", s.x, s.y, height, worth), row, g -> g.addFeature(s.x, s.y, height, worth),
                    faultIf(!s.inside, CELL), faultIf(bad, VALUE),
                    faultIf(s.kind == 4, POSSIBLE), faultIf(state == State.FULL, FULL));
        }
    }

    // ---- views and wishes

    private void views() {
        int[] row = {CELL, FEATURE, PLACE};
        view("sees", row, FINE, ViewGarden::sees);
        view("blockers", row, FINE, ViewGarden::blockers);
        view("clipCost", row, FINE, ViewGarden::clipCost);
        view("clip", row, FINE, ViewGarden::clip);
        view("opening", row, FINE, ViewGarden::opening);
        int[] rowOfWish = {CELL, FEATURE, PLACE, FULL};
        view("wish", rowOfWish, faultIf(state == State.FULL, FULL), ViewGarden::wish);
    }

    private void view(String name, int[] row, int faultOfState, AtCellWithValue call) {
        for (Site s : sites()) {
            for (int feature : featureNumbers()) {
                check(text(name, s.x, s.y, feature), row, g -> call.on(g, s.x, s.y, feature),
                        faultIf(!s.inside, CELL), faultIf(!within(feature, 0, features - 1), FEATURE),
                        faultIf(s.inside && !s.canBePlace(), PLACE), faultOfState);
            }
        }
    }

    /** The bad numbers, the first and the last one that are there, and the next one, which is not. */
    private int[] featureNumbers() {
        int[] numbers = Arrays.copyOf(BAD_FEATURES, BAD_FEATURES.length + 3);
        numbers[BAD_FEATURES.length] = 0;
        numbers[BAD_FEATURES.length + 1] = features - 1;
        numbers[BAD_FEATURES.length + 2] = features;
        return numbers;
    }

    private void cells() {
        int[] row = {CELL, PLACE};
        atCells("kind", false, row, ViewGarden::kind);
        atCells("height", false, row, ViewGarden::height);
        atCells("wishHeight", false, row, ViewGarden::wishHeight);
        atCells("seen", true, row, ViewGarden::seen);
        for (Site s : sites()) {
            // The prospect has one answer for both errors.
            check(text("prospect", s.x, s.y), row, g -> g.prospect(s.x, s.y), faultIf(!s.canBePlace(), CELL));
        }
    }

    private void atCells(String name, boolean needsPlace, int[] row, AtCell call) {
        for (Site s : sites()) {
            check(text(name, s.x, s.y), row, g -> call.on(g, s.x, s.y),
                    faultIf(!s.inside, CELL), faultIf(needsPlace && s.inside && !s.canBePlace(), PLACE));
        }
    }

    // ---- the walk

    private void walkTo() {
        int[] row = {CELL, PLACE, POSSIBLE, FULL};
        int last = state == State.FULL ? 1 : 0;
        for (Site s : sites()) {
            boolean near = s.inside && Math.abs(s.x - last) + s.y == 1;
            check(text("walkTo", s.x, s.y), row, g -> g.walkTo(s.x, s.y),
                    faultIf(!s.inside, CELL), faultIf(s.inside && !s.canBePlace(), PLACE),
                    faultIf(places > 0 && !near, POSSIBLE), faultIf(state == State.FULL, FULL));
        }
    }

    // ---- calls with numbers alone

    private void singleValues() {
        for (int value : new int[] {LEAST, LEAST + 1, -41, -7, -1, 0, 1, 2, 3, 4, 5, 9, 10, 11, 31, 32, 39, 40, 41, GREATEST - 1, GREATEST}) {
            check(text("count", value), new int[] {VALUE}, g -> g.count(value), faultIf(!within(value, 0, 3), VALUE));
            check(text("walkBack", value), new int[] {VALUE}, g -> g.walkBack(value), faultIf(!within(value, 0, places), VALUE));
            check(text("appears", value), new int[] {FEATURE}, g -> g.appears(value), faultIf(!within(value, 0, features - 1), FEATURE));
            check(text("surprises", value), new int[] {VALUE}, g -> g.surprises(value), faultIf(!within(value, 0, places - 1), VALUE));
            check(text("shown", value), new int[] {VALUE}, g -> g.shown(value), faultIf(value < 0, VALUE));
            check(text("bestPlace", value), new int[] {VALUE}, g -> g.bestPlace(value),
                    faultIf(value != 0 && value != 1 && value != 3, VALUE));
        }
        for (int columns : new int[] {LEAST, -3, 0, 2, 3, 16, 17, 65536, GREATEST}) {
            for (int rows : new int[] {LEAST, -3, 0, 2, 3, 12, 13, 65536, GREATEST}) {
                check(text("reset", columns, rows), new int[] {VALUE}, g -> g.reset(columns, rows),
                        faultIf(!within(columns, 3, 16) || !within(rows, 3, 12), VALUE));
            }
        }
    }
}
