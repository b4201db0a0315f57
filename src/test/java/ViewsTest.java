/** Promises 9 to 14: sight, blockers, clipping and openings. */
public final class ViewsTest {
    private static final Check CHECK = new Check("views");
    private static final int LEAST = Integer.MIN_VALUE;
    private static final int GREATEST = Integer.MAX_VALUE;

    public static void main(String[] args) {
        level();
        rising();
        falling();
        slanting();
        throughCorners();
        allEightDirections();
        oneColumnOrRowAside();
        seatedEye();
        featuresDoNotBlock();
        promise10Seen();
        promise13ClipToLawn();
        promise13ClipOnlyBlockers();
        promise14Opening();
        errorsOfViews();
        errorsOfSeen();
        CHECK.end();
    }

    /** Plants the highest hedge and tells to what height clipping for the view lowers it; 40 if it is not crossed. */
    private static int lowered(ViewGarden g, int fromX, int fromY, int hedgeX, int hedgeY) {
        g.plant(hedgeX, hedgeY, 40);
        int cost = g.clipCost(fromX, fromY, 0);
        g.lay(hedgeX, hedgeY, 0);
        return 40 - cost;
    }

    private static void level() {
        ViewGarden g = new ViewGarden();
        g.addFeature(5, 2, 16, 1);
        g.plant(3, 2, 16);
        CHECK.due("a hedge as high as the line is seen over", g.sees(0, 2, 0), 1);
        CHECK.due("it does not block", g.blockers(0, 2, 0), 0);
        CHECK.due("it costs nothing", g.clipCost(0, 2, 0), 0);
        g.plant(3, 2, 17);
        CHECK.due("a higher one is not", g.sees(0, 2, 0), 0);
        CHECK.due("it blocks", g.blockers(0, 2, 0), 1);
        CHECK.due("it costs 1", g.clipCost(0, 2, 0), 1);
        CHECK.due("clipCost changes nothing", g.height(3, 2), 17);
        CHECK.due("a hedge behind the feature does not matter", g.plant(6, 2, 40), 0);
        CHECK.due("nor one behind the eye", g.blockers(4, 2, 0), 0);
        CHECK.due("from the neighbour", g.sees(5, 1, 0), 1);
    }

    private static void rising() {
        ViewGarden g = new ViewGarden();
        g.addFeature(6, 1, 20, 5);
        // Enters the hedge's cell after 2.5 of 6 cells, 17 2/3 high.
        g.plant(3, 1, 17);
        CHECK.due("rising: 17 is seen over", g.sees(0, 1, 0), 1);
        g.plant(3, 1, 18);
        CHECK.due("rising: 18 is not", g.sees(0, 1, 0), 0);
        CHECK.due("rising: clip", g.clip(0, 1, 0), 1);
        CHECK.due("rising: clipped to", g.height(3, 1), 17);
    }

    private static void falling() {
        ViewGarden g = new ViewGarden();
        g.addFeature(4, 4, 0, 1);
        // Leaves the cell after 3.5 of 4 cells, 2 high.
        CHECK.due("falling, the last cell", lowered(g, 0, 4, 3, 4), 2);
        CHECK.due("falling, the middle cell", lowered(g, 0, 4, 2, 4), 6);
        CHECK.due("falling, the first cell", lowered(g, 0, 4, 1, 4), 10);
        g.plant(3, 4, 2);
        CHECK.due("falling: 2 is seen over", g.sees(0, 4, 0), 1);
        g.plant(3, 4, 3);
        CHECK.due("falling: 3 is not", g.sees(0, 4, 0), 0);
    }

    private static void slanting() {
        ViewGarden g = new ViewGarden();
        g.addFeature(2, 1, 24, 1);
        // Crosses (1, 0) from 1/4 to 1/2 and (1, 1) from 1/2 to 3/4 of the way.
        CHECK.due("slanting up (1, 0)", lowered(g, 0, 0, 1, 0), 18);
        CHECK.due("slanting up (1, 1)", lowered(g, 0, 0, 1, 1), 20);
        CHECK.due("slanting up (0, 1)", lowered(g, 0, 0, 0, 1), 40);
        CHECK.due("slanting up (2, 0)", lowered(g, 0, 0, 2, 0), 40);
        g.reset(8, 8);
        g.addFeature(2, 1, 8, 1);
        CHECK.due("slanting down (1, 0)", lowered(g, 0, 0, 1, 0), 12);
        CHECK.due("slanting down (1, 1)", lowered(g, 0, 0, 1, 1), 10);
        g.reset(16, 12);
        g.addFeature(15, 11, 60, 1);
        // The line is 16 + 44 * t high, at t = 1/30, 13/30 and, through a corner, 1/2.
        CHECK.due("longest, first cell", lowered(g, 0, 0, 1, 0), 17);
        CHECK.due("longest, beside the first cell", lowered(g, 0, 0, 0, 1), 40);
        CHECK.due("longest, before the middle", lowered(g, 0, 0, 7, 5), 35);
        CHECK.due("longest, behind the middle", lowered(g, 0, 0, 8, 6), 38);
        CHECK.due("longest, beside the middle", lowered(g, 0, 0, 8, 5), 40);
        CHECK.due("longest, too high for a hedge", lowered(g, 0, 0, 14, 10), 40);
    }

    private static void throughCorners() {
        ViewGarden g = new ViewGarden();
        g.addFeature(3, 3, 16, 1);
        for (int[] cell : new int[][] {{1, 0}, {0, 1}, {2, 1}, {1, 2}, {3, 2}, {2, 3}}) {
            g.plant(cell[0], cell[1], 40);
        }
        CHECK.due("the diagonal passes between corners", g.sees(0, 0, 0), 1);
        CHECK.due("no corner blocks", g.blockers(0, 0, 0), 0);
        g.plant(1, 1, 17);
        g.plant(2, 2, 17);
        CHECK.due("cells on the diagonal do", g.blockers(0, 0, 0), 2);
        g.reset(8, 8);
        g.addFeature(1, 3, 16, 1);
        // From (0, 0) by (0, 1), then through a corner into (1, 2).
        CHECK.due("steep (0, 1)", lowered(g, 0, 0, 0, 1), 16);
        CHECK.due("steep (1, 2)", lowered(g, 0, 0, 1, 2), 16);
        CHECK.due("steep (1, 1)", lowered(g, 0, 0, 1, 1), 40);
        CHECK.due("steep (0, 2)", lowered(g, 0, 0, 0, 2), 40);
        CHECK.due("steep (1, 0)", lowered(g, 0, 0, 1, 0), 40);
        CHECK.due("steep (0, 3)", lowered(g, 0, 0, 0, 3), 40);
    }

    private static void allEightDirections() {
        int[][] ways = {{1, 0}, {1, 1}, {0, 1}, {-1, 1}, {-1, 0}, {-1, -1}, {0, -1}, {1, -1}};
        for (int[] way : ways) {
            ViewGarden g = new ViewGarden();
            g.reset(9, 9);
            g.addFeature(4 + 4 * way[0], 4 + 4 * way[1], 24, 1);
            String to = "towards " + way[0] + ", " + way[1] + ": ";
            for (int i = 1; i < 4; i++) {
                CHECK.due(to + "hedge " + i, lowered(g, 4, 4, 4 + i * way[0], 4 + i * way[1]), 15 + 2 * i);
                CHECK.due(to + "behind " + i, lowered(g, 4, 4, 4 - i * way[0], 4 - i * way[1]), 40);
            }
        }
    }

    /** A line by one column, or one row, and three of the other passes a corner in its middle. */
    private static void oneColumnOrRowAside() {
        for (int aside : new int[] {-1, 1}) {
            for (int on : new int[] {-1, 1}) {
                ViewGarden g = new ViewGarden();
                g.addFeature(4 + aside, 4 + 3 * on, 40, 1);
                String to = "aside " + aside + ", on " + on + ": ";
                // 16 + 24 * t at t = 1/6 and 1/2.
                CHECK.due(to + "first", lowered(g, 4, 4, 4, 4 + on), 20);
                CHECK.due(to + "second", lowered(g, 4, 4, 4 + aside, 4 + 2 * on), 28);
                CHECK.due(to + "beside", lowered(g, 4, 4, 4 + aside, 4 + on), 40);
                CHECK.due(to + "on the other side", lowered(g, 4, 4, 4 - aside, 4 + 2 * on), 40);
                g.reset(8, 8);
                g.addFeature(4 + 3 * on, 4 + aside, 40, 1);
                CHECK.due(to + "first, across", lowered(g, 4, 4, 4 + on, 4), 20);
                CHECK.due(to + "second, across", lowered(g, 4, 4, 4 + 2 * on, 4 + aside), 28);
                CHECK.due(to + "beside, across", lowered(g, 4, 4, 4 + on, 4 + aside), 40);
            }
        }
    }

    private static void seatedEye() {
        ViewGarden g = new ViewGarden();
        g.addFeature(6, 1, 16, 1);
        CHECK.due("from a lawn", lowered(g, 0, 1, 1, 1), 16);
        g.lay(0, 1, 1);
        CHECK.due("from a path", lowered(g, 0, 1, 1, 1), 16);
        g.lay(0, 1, 3);
        // 11 + 5 * t at t = 1/12 and 9/12.
        CHECK.due("from a seat, near", lowered(g, 0, 1, 1, 1), 11);
        CHECK.due("from a seat, far", lowered(g, 0, 1, 5, 1), 14);
        g.reset(8, 8);
        g.addFeature(6, 1, 12, 1);
        g.lay(0, 1, 3);
        // Rises from the seat, but falls to the same feature from a lawn.
        CHECK.due("rises from a seat", lowered(g, 0, 1, 5, 1), 11);
        g.lay(0, 1, 0);
        CHECK.due("falls from a lawn", lowered(g, 0, 1, 5, 1), 12);
        CHECK.due("falls from a lawn, near", lowered(g, 0, 1, 1, 1), 15);
    }

    private static void featuresDoNotBlock() {
        ViewGarden g = new ViewGarden();
        g.addFeature(6, 1, 0, 1);
        g.addFeature(3, 1, 60, 1);
        CHECK.due("behind another feature", g.sees(0, 1, 0), 1);
        CHECK.due("no blocker", g.blockers(0, 1, 0), 0);
        CHECK.due("no cost", g.clip(0, 1, 0), 0);
        CHECK.due("the feature is not clipped", g.height(3, 1), 60);
    }

    private static void promise10Seen() {
        ViewGarden g = new ViewGarden();
        CHECK.due("seen without features", g.seen(0, 0), 0);
        for (int i = 0; i < 8; i++) {
            g.addFeature(i, 7, 16, 1);
        }
        g.addFeature(7, 0, 16, 1);
        g.addFeature(7, 1, 16, 1);
        CHECK.due("all are seen", g.seen(0, 0), 1023);
        g.plant(0, 3, 40);
        CHECK.due("but the first two", g.seen(0, 0), 1020);
        g.plant(6, 0, 40);
        CHECK.due("but the first two and the ninth", g.seen(0, 0), 1020 - 256);
        CHECK.due("a bit set as sees tells", g.sees(0, 0, 8) + g.sees(0, 0, 0), 0);
        CHECK.due("the last one", g.sees(0, 0, 9), 1);
    }

    private static void promise13ClipToLawn() {
        ViewGarden g = new ViewGarden();
        g.reset(16, 3);
        g.addFeature(9, 0, 0, 1);
        // Leaves the cell after 8.5 of 9 cells, 8/9 high.
        g.plant(8, 0, 1);
        CHECK.due("even a height of 1 blocks", g.blockers(0, 0, 0), 1);
        g.plant(8, 0, 7);
        CHECK.due("clipCost to nothing", g.clipCost(0, 0, 0), 7);
        CHECK.due("clipCost leaves the hedge", g.kind(8, 0), 2);
        CHECK.due("clip to nothing", g.clip(0, 0, 0), 7);
        CHECK.due("a lawn is left", g.kind(8, 0), 0);
        CHECK.due("of no height", g.height(8, 0), 0);
        CHECK.due("no hedge", g.count(1), 0);
        CHECK.due("and it is a place", g.sees(8, 0, 0), 1);
        // From 8 cells away the line is 1 high there, so the hedge stays.
        g.plant(8, 0, 7);
        CHECK.due("clip to 1", g.clip(1, 0, 0), 6);
        CHECK.due("a hedge is left", g.kind(8, 0), 2);
        CHECK.due("of the height 1", g.height(8, 0), 1);
    }

    private static void promise13ClipOnlyBlockers() {
        ViewGarden g = new ViewGarden();
        g.addFeature(6, 1, 20, 5);
        g.plant(1, 1, 10);
        g.plant(2, 1, 30);
        g.plant(4, 1, 18);
        g.plant(5, 1, 20);
        g.plant(2, 2, 40);
        // Clearances of 17, 18 1/3 and 19 at (2, 1), (4, 1) and (5, 1).
        CHECK.due("two block", g.blockers(0, 1, 0), 2);
        CHECK.due("two are no opening", g.opening(0, 1, 0), -7);
        CHECK.due("cost of two", g.clipCost(0, 1, 0), 14);
        CHECK.due("clip two", g.clip(0, 1, 0), 14);
        int[] want = {0, 10, 17, 0, 18, 19};
        for (int x = 0; x < 6; x++) {
            CHECK.due("height(" + x + ", 1)", g.height(x, 1), want[x]);
        }
        CHECK.due("the hedge beside", g.height(2, 2), 40);
        CHECK.due("seen after the clipping", g.sees(0, 1, 0), 1);
        CHECK.due("clip again", g.clip(0, 1, 0), 0);
        CHECK.due("the hedges are the same", g.count(1), 5);
    }

    private static void promise14Opening() {
        ViewGarden g = new ViewGarden();
        g.reset(16, 12);
        g.addFeature(15, 11, 16, 1);
        CHECK.due("nothing blocks", g.opening(15, 0, 0), -7);
        g.plant(15, 10, 17);
        CHECK.due("the last cell", g.opening(15, 0, 0), 16 * 10 + 15);
        g.plant(15, 5, 16);
        CHECK.due("another that does not block", g.opening(15, 0, 0), 175);
        g.plant(15, 5, 17);
        CHECK.due("another that blocks", g.opening(15, 0, 0), -7);
        g.plant(15, 10, 1);
        CHECK.due("the other alone", g.opening(15, 0, 0), 16 * 5 + 15);
        CHECK.due("opening changes nothing", g.height(15, 5), 17);
        g.plant(15, 1, 40);
        g.plant(15, 2, 40);
        CHECK.due("three block", g.blockers(15, 0, 0), 3);
        CHECK.due("three are no opening", g.opening(15, 0, 0), -7);
        g.reset(8, 8);
        g.addFeature(7, 0, 16, 1);
        g.plant(1, 0, 17);
        CHECK.due("a cell of row 0", g.opening(0, 0, 0), 1);
    }

    private interface View {
        int of(ViewGarden g, int x, int y, int feature);
    }

    private static void errorsOfViews() {
        errorsOf("sees", (g, x, y, f) -> g.sees(x, y, f));
        errorsOf("blockers", (g, x, y, f) -> g.blockers(x, y, f));
        errorsOf("clipCost", (g, x, y, f) -> g.clipCost(x, y, f));
        errorsOf("clip", (g, x, y, f) -> g.clip(x, y, f));
        errorsOf("opening", (g, x, y, f) -> g.opening(x, y, f));
    }

    private static void errorsOf(String name, View view) {
        ViewGarden g = new ViewGarden();
        g.plant(2, 2, 30);
        CHECK.due(name + " without features", view.of(g, 0, 0, 0), -2);
        g.addFeature(7, 7, 16, 1);
        g.addFeature(7, 0, 16, 1);
        int[][] nowhere = {{-1, 0}, {0, -1}, {8, 0}, {0, 8}, {LEAST, 0}, {0, LEAST}, {GREATEST, 0}, {0, GREATEST}};
        for (int[] cell : nowhere) {
            CHECK.due(name + " outside", view.of(g, cell[0], cell[1], 0), -1);
            CHECK.due(name + " outside of none", view.of(g, cell[0], cell[1], 2), -1);
        }
        for (int feature : new int[] {-1, 2, 10, LEAST, GREATEST}) {
            CHECK.due(name + " of feature " + feature, view.of(g, 0, 0, feature), -2);
            CHECK.due(name + " of feature " + feature + " from a hedge", view.of(g, 2, 2, feature), -2);
            CHECK.due(name + " of feature " + feature + " from a feature", view.of(g, 7, 7, feature), -2);
        }
        CHECK.due(name + " from a hedge", view.of(g, 2, 2, 0), -3);
        CHECK.due(name + " from the feature", view.of(g, 7, 7, 0), -3);
        CHECK.due(name + " from another feature", view.of(g, 7, 7, 1), -3);
        CHECK.due(name + " refused changes nothing", g.height(2, 2), 30);
    }

    private static void errorsOfSeen() {
        ViewGarden g = new ViewGarden();
        g.addFeature(7, 7, 16, 1);
        g.plant(2, 2, 1);
        int[][] nowhere = {{-1, 0}, {0, -1}, {8, 0}, {0, 8}, {LEAST, GREATEST}};
        for (int[] cell : nowhere) {
            CHECK.due("seen(" + cell[0] + ", " + cell[1] + ")", g.seen(cell[0], cell[1]), -1);
        }
        CHECK.due("seen from a hedge", g.seen(2, 2), -3);
        CHECK.due("seen from a feature", g.seen(7, 7), -3);
    }
}
