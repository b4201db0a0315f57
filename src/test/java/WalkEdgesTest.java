/** The sentences of the document's paragraph "The walk", each with its edges; promises 15 to 19. */
public final class WalkEdgesTest {
    private static final Check CHECK = new Check("walk edges");
    private static final int LEAST = Integer.MIN_VALUE;
    private static final int GREATEST = Integer.MAX_VALUE;

    public static void main(String[] args) {
        atMost40Places();
        walkBackFrom0ToTheLength();
        theFirstPlaceIsAnyPlace();
        neighboursShareASide();
        neighboursAtTheRim();
        theEndOfARowIsNoNeighbourOfTheNext();
        itMayComeToACellSeveralTimes();
        aCellThatIsNoPlaceAnyMoreShowsNothing();
        aCellOfTheWalkChangesItsEye();
        aClippedCellOfTheWalkShowsAgain();
        theWalkGoesOnFromACellThatIsNoPlaceAnyMore();
        aFeatureAppearsAtTheFirstPlace();
        itAppearsAtTheLastOf40();
        aFeatureAddedLaterAppearsToo();
        thePlacesAreNumberedFromZero();
        theOrderIsByPlace();
        theOrderIsByNumberAtOnePlace();
        theOrderOfAllTenAtOnce();
        featuresThatDoNotAppearAreNotInTheOrder();
        anEmptyWalk();
        CHECK.end();
    }

    private static ViewGarden walkOf(int length) {
        ViewGarden g = new ViewGarden();
        for (int i = 0; i < length; i++) {
            g.walkTo(3, 3 + i % 2);
        }
        return g;
    }

    // ---- the list

    /** "The walk is a list of at most 40 places" */
    private static void atMost40Places() {
        ViewGarden g = new ViewGarden();
        for (int i = 1; i <= 40; i++) {
            CHECK.due("place number " + i, g.walkTo(3, 3 + i % 2), i);
            CHECK.due("count(2) at " + i, g.count(2), i);
        }
        for (int i = 0; i < 3; i++) {
            CHECK.due("the 41st place", g.walkTo(3, 4), -5);
            CHECK.due("still 40", g.count(2), 40);
        }
        CHECK.due("the last place is the one before", g.walkTo(3, 3), -6);
        CHECK.due("the other side of the last place", g.walkTo(3, 2), -5);
        CHECK.due("back to 39", g.walkBack(1), 39);
        CHECK.due("the 40th again", g.walkTo(4, 4), 40);
        CHECK.due("the 41st again", g.walkTo(5, 4), -5);
        CHECK.due("all the way back", g.walkBack(40), 0);
        CHECK.due("a new start", g.walkTo(0, 0), 1);
    }

    /** "n: how many, 0 to the length of the walk" */
    private static void walkBackFrom0ToTheLength() {
        for (int length : new int[] {0, 1, 2, 39, 40}) {
            for (int n = 0; n <= length; n++) {
                ViewGarden g = walkOf(length);
                CHECK.due("walkBack(" + n + ") of " + length, g.walkBack(n), length - n);
                CHECK.due("count(2) after walkBack(" + n + ") of " + length, g.count(2), length - n);
            }
            for (int n : new int[] {LEAST, LEAST + 40, -40, -1, length + 1, 41, GREATEST}) {
                ViewGarden g = walkOf(length);
                CHECK.due("walkBack(" + n + ") of " + length, g.walkBack(n), -4);
                CHECK.due("count(2) after walkBack(" + n + ") of " + length, g.count(2), length);
            }
        }
    }

    /** "Adds a place at the end of the walk": the first one has no neighbour yet. */
    private static void theFirstPlaceIsAnyPlace() {
        for (int cell = 0; cell < 64; cell++) {
            ViewGarden g = new ViewGarden();
            g.addFeature(1, 1, 3, 3);
            g.plant(2, 1, 3);
            boolean place = cell != 9 && cell != 10;
            CHECK.due("first to " + cell % 8 + ", " + cell / 8, g.walkTo(cell % 8, cell / 8), place ? 1 : -3);
            CHECK.due("count(2)", g.count(2), place ? 1 : 0);
        }
    }

    /** "neighbours in it are cells that share a side" */
    private static void neighboursShareASide() {
        for (int cell = 0; cell < 64; cell++) {
            int x = cell % 8;
            int y = cell / 8;
            ViewGarden g = new ViewGarden();
            g.walkTo(3, 4);
            boolean shares = (x == 2 || x == 4) && y == 4 || x == 3 && (y == 3 || y == 5);
            CHECK.due("from 3, 4 to " + x + ", " + y, g.walkTo(x, y), shares ? 2 : -6);
            CHECK.due("places then", g.count(2), shares ? 2 : 1);
        }
    }

    private static void neighboursAtTheRim() {
        int[][] sizes = {{3, 3}, {16, 12}};
        for (int[] size : sizes) {
            int right = size[0] - 1;
            int bottom = size[1] - 1;
            int[][] corners = {{0, 0}, {right, 0}, {0, bottom}, {right, bottom}};
            for (int[] c : corners) {
                int[][] steps = {{1, 0}, {-1, 0}, {0, 1}, {0, -1}};
                for (int[] step : steps) {
                    int x = c[0] + step[0];
                    int y = c[1] + step[1];
                    boolean inside = x >= 0 && x <= right && y >= 0 && y <= bottom;
                    ViewGarden g = new ViewGarden();
                    g.reset(size[0], size[1]);
                    g.walkTo(c[0], c[1]);
                    CHECK.due("from " + c[0] + ", " + c[1] + " to " + x + ", " + y, g.walkTo(x, y), inside ? 2 : -1);
                }
            }
        }
    }

    private static void theEndOfARowIsNoNeighbourOfTheNext() {
        int[][] sizes = {{16, 12}, {8, 8}, {3, 12}};
        for (int[] size : sizes) {
            for (int y = 0; y + 1 < size[1]; y++) {
                ViewGarden g = new ViewGarden();
                g.reset(size[0], size[1]);
                g.walkTo(size[0] - 1, y);
                CHECK.due("from the end of row " + y + " to the next", g.walkTo(0, y + 1), -6);
                CHECK.due("across row " + y, g.walkTo(0, y), -6);
                g.walkBack(1);
                g.walkTo(0, y + 1);
                CHECK.due("to the end of row " + y, g.walkTo(size[0] - 1, y), -6);
            }
        }
        ViewGarden g = new ViewGarden();
        g.walkTo(0, 0);
        CHECK.due("from the top to the bottom", g.walkTo(0, 7), -6);
    }

    /** "It may come to a cell several times." */
    private static void itMayComeToACellSeveralTimes() {
        ViewGarden g = new ViewGarden();
        g.addFeature(0, 0, 16, 1);
        int[][] round = {{3, 3}, {4, 3}, {4, 4}, {3, 4}};
        for (int i = 0; i < 40; i++) {
            CHECK.due("round and round, " + i, g.walkTo(round[i % 4][0], round[i % 4][1]), i + 1);
        }
        CHECK.due("it appears once", g.appears(0), 0);
        for (int i = 0; i < 40; i++) {
            CHECK.due("surprises(" + i + ")", g.surprises(i), i == 0 ? 1 : 0);
        }
    }

    // ---- cells that are changed later

    private static ViewGarden walkPastAStatue() {
        ViewGarden g = new ViewGarden();
        g.addFeature(0, 7, 16, 1);
        g.walkTo(0, 0);
        g.walkTo(1, 0);
        g.walkTo(2, 0);
        return g;
    }

    /** "a cell of the walk that cannot be a place (any more) shows nothing" */
    private static void aCellThatIsNoPlaceAnyMoreShowsNothing() {
        ViewGarden g = walkPastAStatue();
        CHECK.due("appears at once", g.appears(0), 0);
        g.plant(0, 0, 1);
        CHECK.due("with a hedge in place 0", g.appears(0), 1);
        CHECK.due("surprises(0)", g.surprises(0), 0);
        CHECK.due("surprises(1)", g.surprises(1), 1);
        g.addFeature(1, 0, 0, 1);
        CHECK.due("with a pond in place 1", g.appears(0), 2);
        CHECK.due("the pond", g.appears(1), 2);
        CHECK.due("surprises(1) in the pond", g.surprises(1), 0);
        CHECK.due("surprises(2)", g.surprises(2), 3);
        CHECK.due("shown(0)", g.shown(0), 0);
        CHECK.due("shown(1)", g.shown(1), 1);
        g.plant(2, 0, 40);
        CHECK.due("with no place left", g.appears(0), -7);
        CHECK.due("surprises(2) with no place left", g.surprises(2), 0);
        CHECK.due("shown(0) with no place left", g.shown(0), -7);
        CHECK.due("the walk is as long", g.count(2), 3);
        CHECK.dueFloat("its mean", g.meanProspect(), 0.0f);
        for (int kind : new int[] {0, 1, 3}) {
            g.lay(0, 0, kind);
            CHECK.due("a place again, " + kind, g.appears(0), 0);
            g.plant(0, 0, 1);
        }
        CHECK.due("back from a hedge", g.walkBack(1), 2);
    }

    private static void aCellOfTheWalkChangesItsEye() {
        ViewGarden g = walkPastAStatue();
        g.plant(0, 3, 16);
        CHECK.due("standing", g.appears(0), 0);
        g.lay(0, 0, 3);
        CHECK.due("sitting", g.appears(0), 1);
        g.lay(0, 0, 1);
        CHECK.due("standing again", g.appears(0), 0);
    }

    /** A hedge in the walk that clipping turns into a lawn is a place of the walk again. */
    private static void aClippedCellOfTheWalkShowsAgain() {
        ViewGarden g = new ViewGarden();
        g.reset(16, 3);
        g.addFeature(10, 0, 0, 1);
        g.walkTo(9, 0);
        g.plant(9, 0, 3);
        CHECK.due("a hedge", g.appears(0), -7);
        CHECK.due("clip it", g.clip(0, 0, 0), 3);
        CHECK.due("a lawn", g.appears(0), 0);
        CHECK.due("surprises", g.surprises(0), 1);
    }

    /** "Cells of the walk can be changed later": of the last one only its neighbours are asked for. */
    private static void theWalkGoesOnFromACellThatIsNoPlaceAnyMore() {
        for (boolean hedge : new boolean[] {true, false}) {
            ViewGarden g = walkPastAStatue();
            String what = hedge ? "a hedge" : "a feature";
            if (hedge) {
                g.plant(2, 0, 40);
            } else {
                g.addFeature(2, 0, 60, 9);
            }
            CHECK.due("back into " + what, g.walkTo(2, 0), -3);
            CHECK.due("from " + what + " to a cell that is no neighbour", g.walkTo(4, 0), -6);
            CHECK.due("from " + what + " by a corner", g.walkTo(3, 1), -6);
            CHECK.due("from " + what + " to a neighbour", g.walkTo(3, 0), 4);
            CHECK.due("back over " + what, g.walkTo(2, 0), -3);
            CHECK.due("back beyond " + what, g.walkTo(1, 0), -6);
            CHECK.due("take the step back", g.walkBack(1), 3);
            CHECK.due("from " + what + " another way", g.walkTo(2, 1), 4);
            CHECK.due("places with " + what, g.count(2), 4);
        }
    }

    // ---- what appears

    /**
     * A walk along row 0, with a wall in row 1 that has gaps. A line of sight to row 2 passes a gap of one cell
     * only if it goes straight down, or by two columns to one side.
     */
    private static ViewGarden wall(int... gaps) {
        ViewGarden g = new ViewGarden();
        g.reset(16, 3);
        for (int x = 0; x < 16; x++) {
            g.plant(x, 1, 40);
            g.walkTo(x, 0);
        }
        for (int x : gaps) {
            g.lay(x, 1, 0);
        }
        return g;
    }

    /** "A feature appears at the first place of the walk from which it can be seen." */
    private static void aFeatureAppearsAtTheFirstPlace() {
        for (int gap = 0; gap < 16; gap++) {
            appearsOnlyAt(gap, gap, gap);
            appearsOnlyAt(gap, gap + 1, gap - 1);
            appearsOnlyAt(gap, gap - 1, gap + 1);
        }
        ViewGarden g = wall(6);
        g.addFeature(6, 2, 16, 1);
        CHECK.due("seen from one place", g.seen(6, 0), 1);
        CHECK.due("appears at it", g.appears(0), 6);
        g.lay(5, 1, 0);
        CHECK.due("seen from an earlier one", g.seen(4, 0), 1);
        CHECK.due("appears there", g.appears(0), 4);
        CHECK.due("surprises(4)", g.surprises(4), 1);
        CHECK.due("surprises(6)", g.surprises(6), 0);
    }

    private static void appearsOnlyAt(int gap, int x, int place) {
        if (x >= 0 && x < 16 && place >= 0 && place < 16) {
            ViewGarden g = wall(gap);
            g.addFeature(x, 2, 16, 1);
            String what = "gap " + gap + ", statue " + x;
            CHECK.due(what + ": appears", g.appears(0), place);
            for (int i = 0; i < 16; i++) {
                CHECK.due(what + ": surprises(" + i + ")", g.surprises(i), i == place ? 1 : 0);
            }
            g.walkBack(15 - place);
            CHECK.due(what + ": at the last place", g.appears(0), place);
            g.walkBack(1);
            CHECK.due(what + ": not before", g.appears(0), -7);
        }
    }

    private static void itAppearsAtTheLastOf40() {
        ViewGarden g = walkOf(39);
        g.addFeature(0, 0, 16, 1);
        g.plant(3, 3, 5);
        g.plant(3, 4, 5);
        CHECK.due("not at 39 hedges", g.appears(0), -7);
        CHECK.due("the 40th place", g.walkTo(2, 3), 40);
        CHECK.due("at the last of 40", g.appears(0), 39);
        CHECK.due("surprises(39)", g.surprises(39), 1);
        CHECK.due("surprises(40)", g.surprises(40), -4);
        CHECK.due("shown(0)", g.shown(0), 0);
    }

    /** Nothing is kept of what appeared before: the garden as it is now counts. */
    private static void aFeatureAddedLaterAppearsToo() {
        ViewGarden g = walkPastAStatue();
        CHECK.due("feature 1 is not there", g.appears(1), -2);
        CHECK.due("shown(1)", g.shown(1), -7);
        g.addFeature(7, 0, 16, 1);
        CHECK.due("feature 1", g.appears(1), 0);
        CHECK.due("surprises(0)", g.surprises(0), 3);
        CHECK.due("shown(1) then", g.shown(1), 1);
        g.plant(1, 1, 40);
        g.plant(0, 1, 40);
        CHECK.due("hidden from the first place", g.appears(0), 2);
        CHECK.due("shown(0)", g.shown(0), 1);
    }

    /** "numbered from 0" */
    private static void thePlacesAreNumberedFromZero() {
        for (int length : new int[] {1, 2, 39, 40}) {
            ViewGarden g = walkOf(length);
            g.addFeature(0, 0, 16, 1);
            CHECK.due("surprises(0) of " + length, g.surprises(0), 1);
            if (length > 1) {
                CHECK.due("surprises of the last of " + length, g.surprises(length - 1), 0);
            }
            for (int place : new int[] {LEAST, -1, length, length + 1, 41, GREATEST}) {
                CHECK.due("surprises(" + place + ") of " + length, g.surprises(place), -4);
            }
        }
    }

    /** "Features are ordered by the numbers of the places at which they appear" */
    private static void theOrderIsByPlace() {
        ViewGarden g = wall(1, 4, 7, 10);
        int[] columns = {10, 8, 1, 6, 4, 2, 0, 11, 3, 5};
        int[] places = {10, 6, 1, 8, 4, 0, 2, 9, 5, 3};
        for (int f = 0; f < 10; f++) {
            g.addFeature(columns[f], 2, 16, 1);
        }
        for (int f = 0; f < 10; f++) {
            CHECK.due("by place: appears(" + f + ")", g.appears(f), places[f]);
        }
        int[] order = {5, 2, 6, 9, 4, 8, 1, 3, 7, 0, -7};
        for (int k = 0; k < 11; k++) {
            CHECK.due("by place: shown(" + k + ")", g.shown(k), order[k]);
        }
    }

    /** "then by their own numbers" */
    private static void theOrderIsByNumberAtOnePlace() {
        ViewGarden g = new ViewGarden();
        g.addFeature(7, 0, 16, 1);
        g.addFeature(0, 7, 16, 1);
        g.addFeature(7, 1, 16, 1);
        g.addFeature(1, 7, 16, 1);
        g.plant(1, 0, 40);
        g.walkTo(0, 0);
        g.walkTo(0, 1);
        CHECK.due("by number: surprises(0)", g.surprises(0), 2 + 8);
        CHECK.due("by number: surprises(1)", g.surprises(1), 1 + 4);
        int[] order = {1, 3, 0, 2, -7};
        for (int k = 0; k < 5; k++) {
            CHECK.due("by number: shown(" + k + ")", g.shown(k), order[k]);
        }
    }

    private static void theOrderOfAllTenAtOnce() {
        ViewGarden g = new ViewGarden();
        for (int f = 0; f < 10; f++) {
            g.addFeature(7 - f % 8, 7 - f / 8, 16, 1);
        }
        g.walkTo(0, 0);
        CHECK.due("surprises(0)", g.surprises(0), 1023);
        for (int k = 0; k < 10; k++) {
            CHECK.due("shown(" + k + ")", g.shown(k), k);
        }
        CHECK.due("shown(10)", g.shown(10), -7);
        CHECK.due("shown(11)", g.shown(11), -7);
        CHECK.due("shown(greatest)", g.shown(GREATEST), -7);
        CHECK.due("shown(-1)", g.shown(-1), -4);
        CHECK.due("shown(-10)", g.shown(-10), -4);
        CHECK.due("shown(least)", g.shown(LEAST), -4);
    }

    /** "features that do not appear are not in this order" */
    private static void featuresThatDoNotAppearAreNotInTheOrder() {
        ViewGarden g = new ViewGarden();
        for (int f = 0; f < 5; f++) {
            g.addFeature(7, f, 16, 1);
        }
        g.walkTo(0, 2);
        g.plant(6, 2, 40);
        CHECK.due("feature 2 does not appear", g.appears(2), -7);
        int[] due = {0, 1, 3, 4, -7, -7};
        for (int k = 0; k < 6; k++) {
            CHECK.due("shown(" + k + ")", g.shown(k), due[k]);
        }
        CHECK.due("surprises(0)", g.surprises(0), 31 - 4);
    }

    private static void anEmptyWalk() {
        ViewGarden g = new ViewGarden();
        CHECK.due("shown(-1), nothing there", g.shown(-1), -4);
        CHECK.due("shown(0), nothing there", g.shown(0), -7);
        CHECK.due("appears(0), nothing there", g.appears(0), -2);
        CHECK.due("surprises(0), nothing there", g.surprises(0), -4);
        for (int f = 0; f < 10; f++) {
            g.addFeature(f % 8, f / 8, 16, 1);
            CHECK.due("appears(" + f + ")", g.appears(f), -7);
        }
        CHECK.due("appears(10)", g.appears(10), -2);
        CHECK.due("appears(-1)", g.appears(-1), -2);
        CHECK.due("appears(least)", g.appears(LEAST), -2);
        CHECK.due("appears(greatest)", g.appears(GREATEST), -2);
        CHECK.due("shown(0)", g.shown(0), -7);
        CHECK.due("surprises(0)", g.surprises(0), -4);
        CHECK.due("spoiled()", g.spoiled(), 0);
    }
}
