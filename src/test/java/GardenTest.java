/** Promises 1 to 8: the garden and its cells. */
public final class GardenTest {
    private static final Check CHECK = new Check("garden");
    private static final int LEAST = Integer.MIN_VALUE;
    private static final int GREATEST = Integer.MAX_VALUE;

    public static void main(String[] args) {
        promise1NewObject();
        promise2Reset();
        promise2ResetRefused();
        promise3Lay();
        promise3LayRefused();
        promise4Plant();
        promise4PlantRefused();
        promise5AddFeature();
        promise5AddFeatureRefused();
        promise5Full();
        promise6And7KindAndHeight();
        promise8Count();
        CHECK.end();
    }

    private static void allLawn(String when, ViewGarden g, int columns, int rows) {
        for (int y = 0; y < rows; y++) {
            for (int x = 0; x < columns; x++) {
                CHECK.due(when + " kind(" + x + ", " + y + ")", g.kind(x, y), 0);
                CHECK.due(when + " height(" + x + ", " + y + ")", g.height(x, y), 0);
            }
        }
        CHECK.due(when + " kind right of it", g.kind(columns, rows - 1), -1);
        CHECK.due(when + " kind below it", g.kind(columns - 1, rows), -1);
        counts(when, g, 0, 0, 0, 0);
    }

    private static void counts(String when, ViewGarden g, int features, int hedges, int places, int wishes) {
        CHECK.due(when + " count(0)", g.count(0), features);
        CHECK.due(when + " count(1)", g.count(1), hedges);
        CHECK.due(when + " count(2)", g.count(2), places);
        CHECK.due(when + " count(3)", g.count(3), wishes);
    }

    /** A garden of 5 columns and 4 rows with one of everything. */
    private static ViewGarden furnished() {
        ViewGarden g = new ViewGarden();
        g.reset(5, 4);
        g.addFeature(4, 3, 30, 2);
        g.plant(2, 1, 25);
        g.lay(0, 1, 1);
        g.lay(0, 2, 3);
        g.walkTo(0, 0);
        g.wish(0, 0, 0);
        return g;
    }

    private static void unchanged(String when, ViewGarden g) {
        counts(when, g, 1, 1, 1, 1);
        CHECK.due(when + " kind(4, 3)", g.kind(4, 3), 4);
        CHECK.due(when + " height(4, 3)", g.height(4, 3), 30);
        CHECK.due(when + " kind(2, 1)", g.kind(2, 1), 2);
        CHECK.due(when + " height(2, 1)", g.height(2, 1), 25);
        CHECK.due(when + " kind(0, 1)", g.kind(0, 1), 1);
        CHECK.due(when + " kind(0, 2)", g.kind(0, 2), 3);
        CHECK.due(when + " kind(5, 0)", g.kind(5, 0), -1);
        CHECK.due(when + " kind(0, 4)", g.kind(0, 4), -1);
        CHECK.dueDouble(when + " prospect(4, 2)", g.prospect(4, 2), 60.0);
    }

    private static void promise1NewObject() {
        allLawn("new", new ViewGarden(), 8, 8);
        ViewGarden g = new ViewGarden();
        g.plant(0, 0, 1);
        CHECK.due("another object", new ViewGarden().kind(0, 0), 0);
    }

    private static void promise2Reset() {
        ViewGarden g = furnished();
        CHECK.due("reset(3, 3)", g.reset(3, 3), 9);
        allLawn("after reset(3, 3)", g, 3, 3);
        CHECK.due("reset(16, 12)", g.reset(16, 12), 192);
        g.plant(15, 11, 40);
        CHECK.due("height(15, 11)", g.height(15, 11), 40);
        CHECK.due("reset(16, 12) again", g.reset(16, 12), 192);
        CHECK.due("kind(15, 11)", g.kind(15, 11), 0);
        CHECK.due("kind(16, 0)", g.kind(16, 0), -1);
        CHECK.due("kind(0, 12)", g.kind(0, 12), -1);
        CHECK.due("reset(3, 12)", g.reset(3, 12), 36);
        CHECK.due("kind(2, 11)", g.kind(2, 11), 0);
        CHECK.due("reset(16, 3)", g.reset(16, 3), 48);
        allLawn("after reset(16, 3)", g, 16, 3);
        furnishedThenReset();
    }

    private static void furnishedThenReset() {
        ViewGarden g = furnished();
        CHECK.due("reset(5, 4)", g.reset(5, 4), 20);
        allLawn("furnished, then reset", g, 5, 4);
        CHECK.due("sees after reset", g.sees(0, 0, 0), -2);
        CHECK.due("addFeature after reset", g.addFeature(1, 1, 10, 1), 0);
        CHECK.due("walkTo after reset", g.walkTo(4, 3), 1);
        CHECK.due("wish after reset", g.wish(4, 3, 0), 0);
    }

    private static void promise2ResetRefused() {
        int[][] sizes = {{2, 3}, {17, 3}, {3, 2}, {3, 13}, {0, 0}, {-3, -3}, {12, 16},
            {LEAST, 3}, {GREATEST, 3}, {3, LEAST}, {3, GREATEST}};
        for (int[] size : sizes) {
            ViewGarden g = furnished();
            String call = "reset(" + size[0] + ", " + size[1] + ")";
            CHECK.due(call, g.reset(size[0], size[1]), -4);
            unchanged(call, g);
        }
    }

    private static void promise3Lay() {
        ViewGarden g = new ViewGarden();
        CHECK.due("lay a path", g.lay(7, 0, 1), 0);
        CHECK.due("kind of the path", g.kind(7, 0), 1);
        CHECK.due("lay a seat on a path", g.lay(7, 0, 3), 1);
        CHECK.due("kind of the seat", g.kind(7, 0), 3);
        CHECK.due("lay a lawn on a seat", g.lay(7, 0, 0), 3);
        CHECK.due("kind of the lawn", g.kind(7, 0), 0);
        CHECK.due("kind of another cell", g.kind(0, 7), 0);
        g.plant(0, 7, 9);
        CHECK.due("lay a path on a hedge", g.lay(0, 7, 1), 2);
        CHECK.due("kind where the hedge was", g.kind(0, 7), 1);
        CHECK.due("height where the hedge was", g.height(0, 7), 0);
        CHECK.due("hedges left", g.count(1), 0);
        CHECK.due("lay the same kind again", g.lay(0, 7, 1), 1);
    }

    private static void promise3LayRefused() {
        ViewGarden g = furnished();
        int[][] nowhere = {{-1, 0}, {0, -1}, {5, 0}, {0, 4}, {LEAST, 0}, {0, LEAST}, {GREATEST, GREATEST}, {16, -1}};
        for (int[] cell : nowhere) {
            CHECK.due("lay at " + cell[0] + ", " + cell[1], g.lay(cell[0], cell[1], 1), -1);
            CHECK.due("lay 2 at " + cell[0] + ", " + cell[1], g.lay(cell[0], cell[1], 2), -1);
        }
        for (int kind : new int[] {-1, 2, 4, 5, LEAST, GREATEST}) {
            CHECK.due("lay(2, 1, " + kind + ")", g.lay(2, 1, kind), -4);
            CHECK.due("lay(4, 3, " + kind + ") on a feature", g.lay(4, 3, kind), -4);
        }
        for (int kind : new int[] {0, 1, 3}) {
            CHECK.due("lay(4, 3, " + kind + ")", g.lay(4, 3, kind), -6);
        }
        unchanged("lay refused", g);
    }

    private static void promise4Plant() {
        ViewGarden g = new ViewGarden();
        CHECK.due("plant(1, 2, 1)", g.plant(1, 2, 1), 0);
        CHECK.due("kind(1, 2)", g.kind(1, 2), 2);
        CHECK.due("height(1, 2)", g.height(1, 2), 1);
        CHECK.due("plant(1, 2, 40)", g.plant(1, 2, 40), 1);
        CHECK.due("plant(1, 2, 7)", g.plant(1, 2, 7), 40);
        CHECK.due("height(1, 2) at last", g.height(1, 2), 7);
        CHECK.due("height(2, 1)", g.height(2, 1), 0);
        g.lay(3, 3, 3);
        CHECK.due("plant on a seat", g.plant(3, 3, 5), 0);
        CHECK.due("kind(3, 3)", g.kind(3, 3), 2);
        CHECK.due("hedges", g.count(1), 2);
    }

    private static void promise4PlantRefused() {
        ViewGarden g = furnished();
        int[][] nowhere = {{-1, 0}, {0, -1}, {5, 0}, {0, 4}, {LEAST, 0}, {0, GREATEST}};
        for (int[] cell : nowhere) {
            CHECK.due("plant at " + cell[0] + ", " + cell[1], g.plant(cell[0], cell[1], 5), -1);
            CHECK.due("plant 0 at " + cell[0] + ", " + cell[1], g.plant(cell[0], cell[1], 0), -1);
        }
        for (int height : new int[] {0, -1, 41, LEAST, GREATEST}) {
            CHECK.due("plant(2, 1, " + height + ")", g.plant(2, 1, height), -4);
            CHECK.due("plant(4, 3, " + height + ") on a feature", g.plant(4, 3, height), -4);
        }
        CHECK.due("plant(4, 3, 1)", g.plant(4, 3, 1), -6);
        CHECK.due("plant(4, 3, 40)", g.plant(4, 3, 40), -6);
        unchanged("plant refused", g);
    }

    private static void promise5AddFeature() {
        ViewGarden g = new ViewGarden();
        CHECK.due("a pond", g.addFeature(0, 0, 0, 1), 0);
        CHECK.due("kind of the pond", g.kind(0, 0), 4);
        CHECK.due("height of the pond", g.height(0, 0), 0);
        g.plant(5, 6, 33);
        CHECK.due("a tower in a hedge", g.addFeature(5, 6, 60, 9), 1);
        CHECK.due("kind of the tower", g.kind(5, 6), 4);
        CHECK.due("height of the tower", g.height(5, 6), 60);
        CHECK.due("no hedge is left", g.count(1), 0);
        g.lay(2, 2, 3);
        CHECK.due("a feature on a seat", g.addFeature(2, 2, 12, 4), 2);
        CHECK.due("kind(2, 2)", g.kind(2, 2), 4);
        CHECK.dueDouble("the worths count", g.prospect(5, 5), 9.0 * 60 / 1 + 4.0 * 12 / 18);
    }

    private static void promise5AddFeatureRefused() {
        ViewGarden g = furnished();
        CHECK.due("no column, bad height", g.addFeature(5, 0, 61, 1), -1);
        CHECK.due("no column", g.addFeature(-1, 0, 6, 1), -1);
        CHECK.due("no row", g.addFeature(0, 4, 6, 1), -1);
        CHECK.due("no row above", g.addFeature(0, -1, 6, 1), -1);
        for (int height : new int[] {-1, 61, LEAST, GREATEST}) {
            CHECK.due("height " + height, g.addFeature(2, 1, height, 1), -4);
            CHECK.due("height " + height + " on a feature", g.addFeature(4, 3, height, 1), -4);
        }
        for (int worth : new int[] {0, -1, 10, LEAST, GREATEST}) {
            CHECK.due("worth " + worth, g.addFeature(2, 1, 5, worth), -4);
            CHECK.due("worth " + worth + " on a feature", g.addFeature(4, 3, 5, worth), -4);
        }
        CHECK.due("on a feature", g.addFeature(4, 3, 5, 5), -6);
        unchanged("addFeature refused", g);
    }

    private static void promise5Full() {
        ViewGarden g = new ViewGarden();
        for (int i = 0; i < 10; i++) {
            CHECK.due("feature " + i, g.addFeature(i % 8, i / 8, i, 1), i);
        }
        g.plant(5, 5, 12);
        CHECK.due("an eleventh", g.addFeature(5, 5, 1, 1), -5);
        CHECK.due("an eleventh on a feature", g.addFeature(0, 0, 1, 1), -6);
        CHECK.due("an eleventh of a bad height", g.addFeature(5, 5, 61, 1), -4);
        CHECK.due("an eleventh of a bad worth", g.addFeature(5, 5, 1, 10), -4);
        CHECK.due("an eleventh outside", g.addFeature(8, 5, 1, 1), -1);
        CHECK.due("the hedge stays", g.height(5, 5), 12);
        counts("full", g, 10, 1, 0, 0);
    }

    private static void promise6And7KindAndHeight() {
        ViewGarden g = furnished();
        unchanged("kind and height", g);
        int[][] nowhere = {{-1, 0}, {0, -1}, {5, 0}, {0, 4}, {5, 4}, {LEAST, 0}, {0, LEAST},
            {GREATEST, 0}, {0, GREATEST}, {16, 0}, {-16, 1}};
        for (int[] cell : nowhere) {
            CHECK.due("kind(" + cell[0] + ", " + cell[1] + ")", g.kind(cell[0], cell[1]), -1);
            CHECK.due("height(" + cell[0] + ", " + cell[1] + ")", g.height(cell[0], cell[1]), -1);
        }
        CHECK.due("height of a lawn", g.height(0, 0), 0);
        CHECK.due("height of a path", g.height(0, 1), 0);
        CHECK.due("height of a seat", g.height(0, 2), 0);
    }

    private static void promise8Count() {
        ViewGarden g = furnished();
        counts("furnished", g, 1, 1, 1, 1);
        g.plant(1, 1, 3);
        g.plant(1, 1, 4);
        g.plant(3, 1, 4);
        g.addFeature(4, 0, 3, 3);
        g.walkTo(0, 1);
        g.walkTo(0, 2);
        g.walkTo(0, 3);
        g.wish(0, 0, 0);
        g.wish(0, 1, 1);
        g.wish(0, 0, 0);
        g.wish(0, 0, 1);
        counts("more of all", g, 2, 3, 4, 5);
        for (int what : new int[] {-1, 4, LEAST, GREATEST}) {
            CHECK.due("count(" + what + ")", g.count(what), -4);
        }
    }
}
