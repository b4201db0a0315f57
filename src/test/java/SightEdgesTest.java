/** The sentences of the document's paragraphs "Sight" and "Clipping", each with its edges; promises 9 to 14. */
public final class SightEdgesTest {
    private static final Check CHECK = new Check("sight edges");
    private static final int COLUMNS = 16;
    private static final int ROWS = 12;

    public static void main(String[] args) {
        onlyBetweenThePlaceAndTheFeature();
        aCornerIsNotCrossed();
        theSmallestCutIsCrossed();
        aNeighbourHasNothingBetween();
        theClearanceIncludesWhereTheLineEnters();
        theClearanceIncludesWhereTheLineLeaves();
        slantingLines();
        everyStraightLine();
        theHeightsAreRational();
        aHedgeAsHighAsTheClearanceDoesNotBlock();
        seenIfNoHedgeBlocks();
        featuresDoNotBlockAnyView();
        clippedToTheGreatestIntegerNotGreater();
        loweredTo0BecomesALawn();
        loweredTo1StaysAHedge();
        onlyHedgesThatBlockAreLowered();
        theCostIsTheSumOfTheDifferences();
        theLongestLineFullOfHedges();
        theHedgeThatAloneBlocks();
        noFeatureAndTenFeatures();
        CHECK.end();
    }

    private static ViewGarden greatGarden() {
        ViewGarden g = new ViewGarden();
        g.reset(COLUMNS, ROWS);
        return g;
    }

    private static boolean inside(int x, int y) {
        return x >= 0 && x < COLUMNS && y >= 0 && y < ROWS;
    }

    /** Checks that a hedge of this height does not block the view from a place to feature 0, and that one more does. */
    private static void highest(String what, ViewGarden g, int[] place, int[] hedge, int clearance) {
        g.plant(hedge[0], hedge[1], clearance);
        CHECK.due(what + ": sees over " + clearance, g.sees(place[0], place[1], 0), 1);
        CHECK.due(what + ": blockers of " + clearance, g.blockers(place[0], place[1], 0), 0);
        CHECK.due(what + ": clipCost of " + clearance, g.clipCost(place[0], place[1], 0), 0);
        CHECK.due(what + ": opening of " + clearance, g.opening(place[0], place[1], 0), -7);
        g.plant(hedge[0], hedge[1], clearance + 1);
        CHECK.due(what + ": sees over 1 more", g.sees(place[0], place[1], 0), 0);
        CHECK.due(what + ": blockers of 1 more", g.blockers(place[0], place[1], 0), 1);
        CHECK.due(what + ": clipCost of 1 more", g.clipCost(place[0], place[1], 0), 1);
        CHECK.due(what + ": opening of 1 more", g.opening(place[0], place[1], 0), 16 * hedge[1] + hedge[0]);
        g.lay(hedge[0], hedge[1], 0);
    }

    private static int[] cell(int x, int y) {
        return new int[] {x, y};
    }

    // ---- what is crossed

    /** "the straight line segment from the eye above the centre of the place to the top of the feature" */
    private static void onlyBetweenThePlaceAndTheFeature() {
        int[][] ways = {{1, 0}, {0, 1}, {1, 1}, {-1, 1}, {-1, 0}, {0, -1}, {-1, -1}, {1, -1}};
        for (int[] way : ways) {
            ViewGarden g = new ViewGarden();
            g.addFeature(4 + 2 * way[0], 4 + 2 * way[1], 0, 1);
            for (int x = 0; x < 8; x++) {
                for (int y = 0; y < 8; y++) {
                    boolean onTheLine = x == 4 + way[0] && y == 4 + way[1];
                    if (!onTheLine && (x != 4 || y != 4)) {
                        g.plant(x, y, 40);
                    }
                }
            }
            String what = "towards " + way[0] + ", " + way[1];
            CHECK.due(what + ", hedges all around", g.blockers(4, 4, 0), 0);
            g.plant(4 + way[0], 4 + way[1], 40);
            CHECK.due(what + ", a hedge between", g.blockers(4, 4, 0), 1);
        }
    }

    /** "(a square; its border does not belong to the interior)": every line by odd numbers goes through corners. */
    private static void aCornerIsNotCrossed() {
        for (int p = 1; p < COLUMNS; p += 2) {
            for (int q = 1; q < ROWS; q += 2) {
                if (haveNoDivisor(p, q)) {
                    throughCorners(0, 0, p, q);
                    throughCorners(COLUMNS - 1, 0, -p, q);
                    throughCorners(0, ROWS - 1, p, -q);
                    throughCorners(COLUMNS - 1, ROWS - 1, -p, -q);
                }
            }
        }
    }

    private static boolean haveNoDivisor(int p, int q) {
        for (int d = 2; d <= p && d <= q; d++) {
            if (p % d == 0 && q % d == 0) {
                return false;
            }
        }
        return true;
    }

    /** The line by (p, q), taken as often as there is room, has a corner in the middle of each part. */
    private static void throughCorners(int x, int y, int p, int q) {
        int parts = 0;
        while (inside(x + (parts + 1) * p, y + (parts + 1) * q)) {
            parts++;
        }
        ViewGarden g = greatGarden();
        int toX = x + parts * p;
        int toY = y + parts * q;
        g.addFeature(toX, toY, 0, 1);
        String what = "from " + x + ", " + y + " to " + toX + ", " + toY;
        for (int i = 0; i < parts; i++) {
            // Before the corner is (beforeX, beforeY); the other two cells beside it are not crossed.
            int beforeX = x + i * p + (p - sign(p)) / 2;
            int beforeY = y + i * q + (q - sign(q)) / 2;
            CHECK.due("no hedge there", g.plant(beforeX + sign(p), beforeY, 40), 0);
            CHECK.due("nor there", g.plant(beforeX, beforeY + sign(q), 40), 0);
        }
        CHECK.due(what + ": blockers beside the corners", g.blockers(x, y, 0), 0);
        CHECK.due(what + ": sees", g.sees(x, y, 0), 1);
        CHECK.due(what + ": clip", g.clip(x, y, 0), 0);
        if (p != sign(p) || q != sign(q)) {
            g.plant(x + (p - sign(p)) / 2, y + (q - sign(q)) / 2, 40);
            g.plant(x + (p + sign(p)) / 2, y + (q + sign(q)) / 2, 40);
            CHECK.due(what + ": blockers before and behind the corner", g.blockers(x, y, 0), 2);
        }
    }

    private static int sign(int number) {
        return number < 0 ? -1 : 1;
    }

    /** "more than one point in common with the interior of the cell": a very short part is enough. */
    private static void theSmallestCutIsCrossed() {
        // To (14, 11) the line is in (4, 4) from 7/22 to 9/28 of the way, for 1/308 of it.
        ViewGarden g = greatGarden();
        g.addFeature(14, 11, 16, 1);
        highest("1/308 of the way", g, cell(0, 0), cell(4, 4), 16);
        // To (12, 11) in (1, 0) from 1/24 to 1/22, for 1/264.
        g = greatGarden();
        g.addFeature(12, 11, 16, 1);
        highest("1/264 of the way", g, cell(0, 0), cell(1, 0), 16);
        CHECK.due("the cell on the other side", g.plant(0, 1, 40), 0);
        CHECK.due("is not crossed", g.sees(0, 0, 0), 1);
        // To (10, 11) in (0, 1) from 1/22 to 1/20, for 1/220.
        g = greatGarden();
        g.addFeature(10, 11, 16, 1);
        highest("1/220 of the way", g, cell(0, 0), cell(0, 1), 16);
        CHECK.due("the cell beside it", g.plant(1, 0, 40), 0);
        CHECK.due("is not crossed either", g.sees(0, 0, 0), 1);
        g = greatGarden();
        g.addFeature(1, 0, 16, 1);
        highest("1/308 of the way, from below", g, cell(15, 11), cell(11, 7), 16);
    }

    /** Between cells that share a side or a corner there is no other cell. */
    private static void aNeighbourHasNothingBetween() {
        ViewGarden g = new ViewGarden();
        g.reset(3, 3);
        g.addFeature(1, 1, 0, 1);
        for (int place = 0; place < 9; place++) {
            if (place != 4) {
                for (int cell = 0; cell < 9; cell++) {
                    g.plant(cell % 3, cell / 3, 40);
                }
                g.lay(place % 3, place / 3, 3);
                CHECK.due("from " + place + " beside the pond", g.sees(place % 3, place / 3, 0), 1);
            }
        }
    }

    // ---- the clearance

    /** "including the points in which it enters ... the cell": the least height of a line that rises. */
    private static void theClearanceIncludesWhereTheLineEnters() {
        ViewGarden g = new ViewGarden();
        g.addFeature(4, 4, 48, 1);
        // 16 + 32 * t, entered at t = 1/8, 3/8 and 5/8.
        for (int[] from : new int[][] {{0, 4}, {4, 0}, {0, 0}}) {
            for (int i = 1; i < 4; i++) {
                int[] hedge = cell(from[0] == 4 ? 4 : i, from[1] == 4 ? 4 : i);
                highest("rising from " + from[0] + ", " + from[1] + ", " + i, g, from, hedge, 12 + 8 * i);
            }
        }
        g.reset(8, 8);
        g.addFeature(7, 1, 25, 1);
        g.lay(0, 1, 3);
        // From the seat, 11 + 14 * t, entered at t = (2 * i - 1) / 14.
        for (int i = 1; i < 7; i++) {
            highest("rising from a seat, " + i, g, cell(0, 1), cell(i, 1), 10 + 2 * i);
        }
    }

    /** "and leaves the cell": the least height of a line that falls. */
    private static void theClearanceIncludesWhereTheLineLeaves() {
        ViewGarden g = new ViewGarden();
        g.addFeature(3, 3, 0, 1);
        // 16 - 16 * t, left at t = 3/8, 5/8 and 7/8.
        for (int[] from : new int[][] {{7, 3}, {3, 7}, {7, 7}}) {
            for (int i = 1; i < 4; i++) {
                int[] hedge = cell(from[0] == 3 ? 3 : 7 - i, from[1] == 3 ? 3 : 7 - i);
                highest("falling from " + from[0] + ", " + from[1] + ", " + i, g, from, hedge, 14 - 4 * i);
            }
        }
        g.reset(8, 8);
        g.addFeature(4, 0, 3, 1);
        g.lay(0, 0, 3);
        // From the seat, 11 - 8 * t, left at t = (2 * i + 1) / 8.
        for (int i = 1; i < 4; i++) {
            highest("falling from a seat, " + i, g, cell(0, 0), cell(i, 0), 10 - 2 * i);
        }
    }

    /**
     * By 2 and 3 cells, in all eight ways: the line enters (0, 1), (1, 1), (1, 2) and (2, 2) at 1/6, 1/4, 1/2 and
     * 3/4 of the way, and leaves the last one at 5/6.
     */
    private static void slantingLines() {
        int[][] crossed = {{0, 1}, {1, 1}, {1, 2}, {2, 2}};
        int[] rising = {18, 19, 22, 25};
        int[] falling = {13, 10, 7, 6};
        for (int way = 0; way < 8; way++) {
            for (int i = 0; i < 4; i++) {
                ViewGarden g = new ViewGarden();
                int[] to = turned(2, 3, way);
                int[] hedge = turned(crossed[i][0], crossed[i][1], way);
                g.addFeature(to[0], to[1], 28, 1);
                highest("slanting up, way " + way + ", cell " + i, g, cell(4, 4), hedge, rising[i]);
                g.reset(8, 8);
                g.addFeature(to[0], to[1], 4, 1);
                highest("slanting down, way " + way + ", cell " + i, g, cell(4, 4), hedge, falling[i]);
            }
        }
    }

    /** The cell that lies across and down from (4, 4), with the two exchanged or turned round. */
    private static int[] turned(int across, int down, int way) {
        int x = (way & 1) == 0 ? across : down;
        int y = (way & 1) == 0 ? down : across;
        return cell((way & 2) == 0 ? 4 + x : 4 - x, (way & 4) == 0 ? 4 + y : 4 - y);
    }

    /** All straight lines of a row, of all lengths, to all heights, with the hedge in each cell between. */
    private static void everyStraightLine() {
        for (int length = 2; length < COLUMNS; length++) {
            for (int top = 0; top <= 60; top++) {
                for (int kind : new int[] {0, 3}) {
                    straightLine(length, top, kind);
                }
            }
        }
    }

    private static void straightLine(int length, int top, int kind) {
        ViewGarden g = new ViewGarden();
        g.reset(COLUMNS, 3);
        g.lay(0, 1, kind);
        g.addFeature(length, 1, top, 1);
        int eye = kind == 3 ? 11 : 16;
        for (int i = 1; i < length; i++) {
            int halves = top >= eye ? 2 * i - 1 : 2 * i + 1;
            int clearance = (eye * (2 * length - halves) + top * halves) / (2 * length);
            if (clearance < 40) {
                g.plant(i, 1, 40);
                String what = length + " cells to " + top + " from a " + kind + " over " + i;
                CHECK.due(what + ": cost", g.clip(0, 1, 0), 40 - clearance);
                CHECK.due(what + ": height", g.height(i, 1), clearance);
                CHECK.due(what + ": kind", g.kind(i, 1), clearance == 0 ? 0 : 2);
                g.lay(i, 1, 0);
            }
        }
    }

    /** "(These heights are rational numbers.)": in doubles, 16 * (1 - t) + 2 * t comes to less than 11, 7 and 3 here. */
    private static void theHeightsAreRational() {
        int[][] clearances = {{2, 11}, {4, 7}, {6, 3}};
        for (int[] due : clearances) {
            double t = (2 * due[0] + 1) / 14.0;
            CHECK.due("a double that is too small", 16 * (1 - t) + 2 * t < due[1] ? 1 : 0, 1);
            ViewGarden g = greatGarden();
            g.addFeature(7, 0, 2, 1);
            highest("across, over " + due[0], g, cell(0, 0), cell(due[0], 0), due[1]);
            g = greatGarden();
            g.addFeature(0, 7, 2, 1);
            highest("down, over " + due[0], g, cell(0, 0), cell(0, due[0]), due[1]);
        }
        ViewGarden g = new ViewGarden();
        g.addFeature(5, 1, 1, 1);
        g.lay(0, 0, 3);
        // 11 - 10 * t at 7/10, where a double comes to more than 4; that must not let a hedge of 5 through.
        highest("from a seat", g, cell(0, 0), cell(3, 1), 4);
    }

    /** "A crossed hedge blocks the view if its height is greater than its clearance." */
    private static void aHedgeAsHighAsTheClearanceDoesNotBlock() {
        ViewGarden g = new ViewGarden();
        g.addFeature(7, 7, 16, 1);
        highest("level", g, cell(0, 7), cell(3, 7), 16);
        highest("level by a corner", g, cell(0, 0), cell(3, 3), 16);
        // The highest hedge: 16 + 44 * t is 38 at the middle, 40 after 6/11 of the way.
        g.reset(16, 12);
        g.addFeature(0, 11, 60, 1);
        for (int y = 1; y < 11; y++) {
            int clearance = 16 + 2 * (2 * y - 1);
            if (clearance < 40) {
                highest("to 60, over row " + y, g, cell(0, 0), cell(0, y), clearance);
            } else {
                g.plant(0, y, 40);
                CHECK.due("to 60, over row " + y, g.sees(0, 0, 0), 1);
            }
        }
    }

    /** "The feature can be seen from the place if no hedge blocks the view." */
    private static void seenIfNoHedgeBlocks() {
        ViewGarden g = new ViewGarden();
        g.addFeature(7, 3, 16, 1);
        for (int x = 1; x < 7; x++) {
            g.plant(x, 3, 16);
        }
        CHECK.due("six hedges that do not block", g.sees(0, 3, 0), 1);
        for (int x = 1; x < 7; x++) {
            g.plant(x, 3, 17);
            CHECK.due("one that blocks, at " + x, g.sees(0, 3, 0), 0);
            CHECK.due("it alone, at " + x, g.blockers(0, 3, 0), 1);
            g.plant(x, 3, 16);
        }
        for (int x = 1; x < 7; x++) {
            g.plant(x, 3, 40);
            CHECK.due("so many block", g.blockers(0, 3, 0), x);
            CHECK.due("not seen", g.sees(0, 3, 0), 0);
        }
    }

    /** "Features do not block any view." */
    private static void featuresDoNotBlockAnyView() {
        ViewGarden g = new ViewGarden();
        g.addFeature(7, 3, 0, 1);
        for (int x = 1; x < 7; x++) {
            g.addFeature(x, 3, 60, 9);
        }
        CHECK.due("sees behind six features", g.sees(0, 3, 0), 1);
        CHECK.due("all seven", g.seen(0, 3), 127);
        CHECK.due("blockers", g.blockers(0, 3, 0), 0);
        CHECK.due("opening", g.opening(0, 3, 0), -7);
        CHECK.due("clipCost", g.clipCost(0, 3, 0), 0);
        CHECK.due("clip", g.clip(0, 3, 0), 0);
        CHECK.due("height of one of them", g.height(6, 3), 60);
        g.wish(0, 3, 0);
        CHECK.due("wishCost", g.wishCost(), 0);
    }

    // ---- clipping

    /** "to the greatest integer that is not greater than its clearance" */
    private static void clippedToTheGreatestIntegerNotGreater() {
        // Over 15 cells to a height of 3: 12 29/30 behind the third cell, 6 1/30 behind the eleventh.
        int[][] due = {{3, 12}, {11, 6}};
        for (int[] hedge : due) {
            ViewGarden g = greatGarden();
            g.addFeature(15, 0, 3, 1);
            highest("a fraction", g, cell(0, 0), cell(hedge[0], 0), hedge[1]);
            g.plant(hedge[0], 0, 40);
            CHECK.due("clip at " + hedge[0], g.clip(0, 0, 0), 40 - hedge[1]);
            CHECK.due("height at " + hedge[0], g.height(hedge[0], 0), hedge[1]);
            CHECK.due("seen at once", g.sees(0, 0, 0), 1);
            CHECK.due("nothing more to clip", g.clip(0, 0, 0), 0);
        }
        ViewGarden g = new ViewGarden();
        g.addFeature(4, 0, 0, 1);
        g.plant(2, 0, 40);
        // 16 - 16 * 5/8 is 6 exactly.
        CHECK.due("clip to an integer", g.clip(0, 0, 0), 34);
        CHECK.due("the integer itself", g.height(2, 0), 6);
    }

    /** "a hedge that is lowered to 0 becomes a lawn" */
    private static void loweredTo0BecomesALawn() {
        for (int height : new int[] {1, 40}) {
            ViewGarden g = greatGarden();
            g.addFeature(10, 0, 0, 1);
            g.plant(9, 0, height);
            // 16 / 20 is left behind the ninth of ten cells.
            CHECK.due("clipCost of " + height, g.clipCost(0, 0, 0), height);
            CHECK.due("a hedge still", g.kind(9, 0), 2);
            CHECK.due("clip of " + height, g.clip(0, 0, 0), height);
            CHECK.due("a lawn", g.kind(9, 0), 0);
            CHECK.due("of no height", g.height(9, 0), 0);
            CHECK.due("no hedge", g.count(1), 0);
            CHECK.due("wishHeight", g.wishHeight(9, 0), -7);
            CHECK.due("a place", g.seen(9, 0), 1);
            CHECK.due("in the walk", g.walkTo(9, 0), 1);
            CHECK.due("the previous kind", g.lay(9, 0, 1), 0);
            CHECK.due("the previous height", g.plant(9, 0, 3), 0);
        }
        ViewGarden g = greatGarden();
        g.addFeature(15, 11, 0, 1);
        g.lay(0, 0, 3);
        g.plant(14, 10, 40);
        CHECK.due("to 0 at the end of the longest line", g.clip(0, 0, 0), 40);
        CHECK.due("a lawn there", g.kind(14, 10), 0);
    }

    /** The least height above 0 stays a hedge: 16 / 16 is left behind the seventh of eight cells. */
    private static void loweredTo1StaysAHedge() {
        ViewGarden g = greatGarden();
        g.addFeature(8, 0, 0, 1);
        g.plant(7, 0, 2);
        CHECK.due("clip to 1", g.clip(0, 0, 0), 1);
        CHECK.due("a hedge", g.kind(7, 0), 2);
        CHECK.due("of the height 1", g.height(7, 0), 1);
        CHECK.due("hedges", g.count(1), 1);
        CHECK.due("no place", g.seen(7, 0), -3);
        CHECK.due("clip again", g.clip(0, 0, 0), 0);
        CHECK.due("the same hedge", g.height(7, 0), 1);
    }

    /** "to lower each hedge that blocks it": one that does not block stays, even above another's clearance. */
    private static void onlyHedgesThatBlockAreLowered() {
        ViewGarden g = new ViewGarden();
        g.addFeature(4, 0, 0, 1);
        // Clearances of 10, 6 and 2.
        g.plant(1, 0, 10);
        g.plant(2, 0, 7);
        g.plant(3, 0, 1);
        g.plant(2, 1, 40);
        g.plant(5, 0, 40);
        CHECK.due("clip one of three", g.clip(0, 0, 0), 1);
        int[] due = {0, 10, 6, 1, 0, 40};
        for (int x = 0; x < 6; x++) {
            CHECK.due("height(" + x + ", 0)", g.height(x, 0), due[x]);
        }
        CHECK.due("beside the line", g.height(2, 1), 40);
        CHECK.due("hedges", g.count(1), 5);
    }

    /** "The cost is the sum of the differences of heights." */
    private static void theCostIsTheSumOfTheDifferences() {
        ViewGarden g = new ViewGarden();
        g.addFeature(4, 0, 0, 1);
        CHECK.due("no hedge costs nothing", g.clipCost(0, 0, 0), 0);
        g.plant(1, 0, 11);
        g.plant(2, 0, 40);
        g.plant(3, 0, 5);
        CHECK.due("clipCost of three", g.clipCost(0, 0, 0), 1 + 34 + 3);
        CHECK.due("clipCost again", g.clipCost(0, 0, 0), 38);
        CHECK.due("heights stay", g.height(1, 0) + g.height(2, 0) + g.height(3, 0), 56);
        CHECK.due("clip of three", g.clip(0, 0, 0), 38);
        CHECK.due("heights then", g.height(1, 0) + g.height(2, 0) + g.height(3, 0), 18);
    }

    /** A line crosses at most 24 cells between its ends: by 14 columns and 11 rows, without a corner. */
    private static void theLongestLineFullOfHedges() {
        ViewGarden g = greatGarden();
        for (int cell = 0; cell < COLUMNS * ROWS; cell++) {
            g.plant(cell % COLUMNS, cell / COLUMNS, 40);
        }
        g.addFeature(14, 11, 16, 1);
        g.lay(0, 0, 1);
        CHECK.due("blockers of the longest line", g.blockers(0, 0, 0), 24);
        CHECK.due("its opening", g.opening(0, 0, 0), -7);
        CHECK.due("its clipCost", g.clipCost(0, 0, 0), 24 * 24);
        g.wish(0, 0, 0);
        CHECK.due("its wishCost", g.wishCost(), 24 * 24);
        CHECK.due("its clip", g.clip(0, 0, 0), 24 * 24);
        CHECK.due("seen then", g.sees(0, 0, 0), 1);
        CHECK.due("hedges then", g.count(1), 190);
        CHECK.due("the last of them", g.height(13, 10), 16);
    }

    // ---- openings, and the list of features

    /** "NONE if no hedge or more than one hedge blocks the view" */
    private static void theHedgeThatAloneBlocks() {
        ViewGarden g = greatGarden();
        g.addFeature(15, 11, 16, 1);
        g.addFeature(0, 0, 16, 1);
        CHECK.due("no hedge", g.opening(15, 0, 0), -7);
        g.plant(15, 1, 16);
        CHECK.due("one that does not block", g.opening(15, 0, 0), -7);
        g.plant(15, 1, 17);
        CHECK.due("one", g.opening(15, 0, 0), 31);
        g.plant(15, 10, 17);
        CHECK.due("two", g.opening(15, 0, 0), -7);
        g.plant(15, 5, 40);
        CHECK.due("three", g.opening(15, 0, 0), -7);
        g.lay(15, 1, 0);
        g.lay(15, 5, 0);
        CHECK.due("the last one alone", g.opening(15, 0, 0), 175);
        g.plant(1, 0, 17);
        CHECK.due("the least number", g.opening(2, 0, 1), 1);
        g.plant(0, 1, 17);
        CHECK.due("in the first column", g.opening(0, 2, 1), 16);
    }

    /** "Returns the features that can be seen from the place, as a bit set (bit k for feature k)" */
    private static void noFeatureAndTenFeatures() {
        ViewGarden g = new ViewGarden();
        CHECK.due("no feature", g.seen(7, 7), 0);
        g.reset(16, 12);
        for (int f = 0; f < 10; f++) {
            g.addFeature(f, 11, 16, 1);
            CHECK.due((f + 1) + " features", g.seen(5, 0), (2 << f) - 1);
        }
        for (int f = 0; f < 10; f++) {
            g.plant(f, 10, 40);
            // Lines to the others leave column f in the upper half of the garden.
            CHECK.due("all but feature " + f, g.seen(f, 0), 1023 - (1 << f));
            g.lay(f, 10, 0);
        }
    }
}
