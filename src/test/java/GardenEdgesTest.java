/** The sentences of the document's paragraph "Garden", each with its edges; promises 1 to 8. */
public final class GardenEdgesTest {
    private static final Check CHECK = new Check("garden edges");
    private static final int LEAST = Integer.MIN_VALUE;
    private static final int GREATEST = Integer.MAX_VALUE;

    public static void main(String[] args) {
        threeToSixteenColumns();
        threeToTwelveRows();
        aNewGardenHasEightColumnsAndRows();
        resetStartsAnew();
        cellsOfAGreaterGardenAreLost();
        eachCellIsOfAKind();
        aHedgeHasAHeightFrom1To40();
        upToTenFeaturesNumberedFromZero();
        eachFeatureInACellOfItsOwn();
        aFeatureHasAHeightFrom0To60();
        aFeatureHasAWorthFrom1To9();
        featuresAreNeverRemovedExceptByReset();
        aCellCanBeAPlaceIfLawnPathOrSeat();
        theEyeHasTheHeight16OnASeat11();
        countFrom0To3();
        theLastOf512Calls();
        CHECK.end();
    }

    // ---- the size

    /** "The garden has 3 to 16 columns (x from 0)" */
    private static void threeToSixteenColumns() {
        for (int columns = 3; columns <= 16; columns++) {
            ViewGarden g = new ViewGarden();
            CHECK.due("reset(" + columns + ", 5)", g.reset(columns, 5), columns * 5);
            CHECK.due("the first of " + columns + " columns", g.kind(0, 0), 0);
            CHECK.due("the last of " + columns + " columns", g.kind(columns - 1, 4), 0);
            CHECK.due("before the first of " + columns, g.kind(-1, 0), -1);
            CHECK.due("behind the last of " + columns, g.kind(columns, 4), -1);
            CHECK.due("a hedge in the last of " + columns, g.plant(columns - 1, 4, 40), 0);
            CHECK.due("a hedge behind the last of " + columns, g.plant(columns, 4, 40), -1);
            CHECK.due("hedges", g.count(1), 1);
        }
        for (int columns : new int[] {LEAST, LEAST + 3, -16, -3, -1, 0, 1, 2, 17, 18, 65536, 1 << 28, GREATEST}) {
            refusedReset(columns, 5);
        }
    }

    /** "and 3 to 12 rows (y from 0)" */
    private static void threeToTwelveRows() {
        for (int rows = 3; rows <= 12; rows++) {
            ViewGarden g = new ViewGarden();
            CHECK.due("reset(7, " + rows + ")", g.reset(7, rows), 7 * rows);
            CHECK.due("the first of " + rows + " rows", g.kind(0, 0), 0);
            CHECK.due("the last of " + rows + " rows", g.kind(6, rows - 1), 0);
            CHECK.due("before the first of " + rows, g.kind(0, -1), -1);
            CHECK.due("behind the last of " + rows, g.kind(6, rows), -1);
            CHECK.due("a hedge in the last of " + rows, g.plant(6, rows - 1, 40), 0);
            CHECK.due("a hedge behind the last of " + rows, g.plant(6, rows, 40), -1);
            CHECK.due("hedges", g.count(1), 1);
        }
        for (int rows : new int[] {LEAST, LEAST + 3, -12, -3, -1, 0, 1, 2, 13, 14, 16, 65536, 1 << 28, GREATEST}) {
            refusedReset(7, rows);
        }
        refusedReset(2, 2);
        refusedReset(17, 13);
        refusedReset(GREATEST, GREATEST);
        refusedReset(LEAST, LEAST);
    }

    private static void refusedReset(int columns, int rows) {
        ViewGarden g = new ViewGarden();
        g.plant(7, 7, 9);
        String call = "reset(" + columns + ", " + rows + ")";
        CHECK.due(call, g.reset(columns, rows), -4);
        CHECK.due("the hedge after " + call, g.height(7, 7), 9);
        CHECK.due("the columns after " + call, g.kind(8, 0), -1);
        CHECK.due("the rows after " + call, g.kind(0, 8), -1);
    }

    /** "Creates a garden of 8 columns and 8 rows, all lawn, without features, walk and wishes." */
    private static void aNewGardenHasEightColumnsAndRows() {
        bare("new", new ViewGarden(), 8, 8);
    }

    private static void bare(String when, ViewGarden g, int columns, int rows) {
        for (int y = -1; y <= rows; y++) {
            for (int x = -1; x <= columns; x++) {
                boolean inside = x >= 0 && x < columns && y >= 0 && y < rows;
                CHECK.due(when + ": kind(" + x + ", " + y + ")", g.kind(x, y), inside ? 0 : -1);
                CHECK.due(when + ": height(" + x + ", " + y + ")", g.height(x, y), inside ? 0 : -1);
            }
        }
        for (int what = 0; what < 4; what++) {
            CHECK.due(when + ": count(" + what + ")", g.count(what), 0);
        }
        CHECK.due(when + ": appears(0)", g.appears(0), -2);
        CHECK.due(when + ": surprises(0)", g.surprises(0), -4);
        CHECK.due(when + ": shown(0)", g.shown(0), -7);
        CHECK.due(when + ": walkBack(1)", g.walkBack(1), -4);
        CHECK.due(when + ": wishCost()", g.wishCost(), 0);
        CHECK.due(when + ": spoiled()", g.spoiled(), 0);
        CHECK.due(when + ": clearWishes()", g.clearWishes(), 0);
        CHECK.dueFloat(when + ": meanProspect()", g.meanProspect(), -1.0f);
        CHECK.dueDouble(when + ": prospect(0, 0)", g.prospect(0, 0), 0.0);
    }

    private static ViewGarden full() {
        ViewGarden g = new ViewGarden();
        g.reset(9, 9);
        for (int i = 0; i < 10; i++) {
            g.addFeature(8, i % 9, 20, 5);
            g.addFeature(i % 9, 8, 20, 5);
            g.plant(1, i % 9, 40);
        }
        for (int i = 0; i < 40; i++) {
            g.walkTo(0, i % 2);
        }
        for (int i = 0; i < 10; i++) {
            g.wish(0, 0, i);
        }
        return g;
    }

    /** "Starts anew with a garden that is all lawn, without features, walk and wishes." */
    private static void resetStartsAnew() {
        ViewGarden g = full();
        for (int what : new int[] {0, 2, 3}) {
            CHECK.due("full: count(" + what + ")", g.count(what), what == 2 ? 40 : 10);
        }
        CHECK.due("full: reset(3, 12)", g.reset(3, 12), 36);
        bare("reset of a full garden", g, 3, 12);
        g = full();
        CHECK.due("full: reset(9, 9)", g.reset(9, 9), 81);
        bare("reset to the same size", g, 9, 9);
        CHECK.due("the first feature again", g.addFeature(8, 0, 20, 5), 0);
        CHECK.due("the first place again", g.walkTo(5, 5), 1);
        CHECK.due("the first wish again", g.wish(5, 5, 0), 0);
    }

    /** Nothing of a greater garden is left when a smaller one grows again. */
    private static void cellsOfAGreaterGardenAreLost() {
        ViewGarden g = new ViewGarden();
        g.reset(16, 12);
        g.plant(15, 11, 40);
        g.addFeature(15, 10, 40, 1);
        g.lay(14, 11, 3);
        g.reset(3, 3);
        CHECK.due("hedges of the smaller one", g.count(1), 0);
        CHECK.due("the greater one's cell", g.kind(15, 11), -1);
        CHECK.due("seats of the smaller one", g.bestPlace(3), -7);
        g.reset(16, 12);
        CHECK.due("the hedge", g.kind(15, 11), 0);
        CHECK.due("the hedge's height", g.height(15, 11), 0);
        CHECK.due("the feature", g.kind(15, 10), 0);
        CHECK.due("the feature's height", g.height(15, 10), 0);
        CHECK.due("the seat", g.kind(14, 11), 0);
    }

    // ---- kinds and heights

    /** "Each cell is of a kind: 0 lawn, 1 path, 2 hedge, 3 seat, 4 feature." */
    private static void eachCellIsOfAKind() {
        ViewGarden g = new ViewGarden();
        int[] kinds = {0, 1, 3};
        for (int before : kinds) {
            for (int after : kinds) {
                g.lay(7, 7, before);
                CHECK.due("lay " + after + " on " + before, g.lay(7, 7, after), before);
                CHECK.due("kind of " + after + " on " + before, g.kind(7, 7), after);
            }
            g.plant(7, 7, 6);
            CHECK.due("the kind of a hedge", g.kind(7, 7), 2);
            CHECK.due("lay " + before + " on a hedge", g.lay(7, 7, before), 2);
            CHECK.due("height of " + before + " on a hedge", g.height(7, 7), 0);
        }
        for (int kind : new int[] {LEAST, -3, -1, 2, 4, 5, 256, GREATEST}) {
            CHECK.due("lay(7, 7, " + kind + ")", g.lay(7, 7, kind), -4);
            CHECK.due("kind after lay(7, 7, " + kind + ")", g.kind(7, 7), 3);
        }
        g.addFeature(7, 7, 5, 1);
        CHECK.due("the kind of a feature", g.kind(7, 7), 4);
        CHECK.due("the kind beside it", g.kind(6, 7), 0);
    }

    /** "A hedge has a height from 1 to 40." */
    private static void aHedgeHasAHeightFrom1To40() {
        ViewGarden g = new ViewGarden();
        for (int height = 1; height <= 40; height++) {
            CHECK.due("plant(0, 7, " + height + ")", g.plant(0, 7, height), height - 1);
            CHECK.due("height(0, 7) of " + height, g.height(0, 7), height);
        }
        for (int height : new int[] {LEAST, -40, -1, 0, 41, 42, 60, 256 + 20, GREATEST}) {
            CHECK.due("plant(0, 7, " + height + ") in a hedge", g.plant(0, 7, height), -4);
            CHECK.due("its height after " + height, g.height(0, 7), 40);
            CHECK.due("plant(7, 0, " + height + ") in a lawn", g.plant(7, 0, height), -4);
            CHECK.due("the lawn after " + height, g.kind(7, 0), 0);
            CHECK.due("the lawn's height after " + height, g.height(7, 0), 0);
        }
        CHECK.due("lower again", g.plant(0, 7, 1), 40);
        CHECK.due("hedges", g.count(1), 1);
    }

    // ---- features

    /** "There are up to 10 features, numbered from 0 in order of addition" */
    private static void upToTenFeaturesNumberedFromZero() {
        ViewGarden g = new ViewGarden();
        CHECK.due("no feature", g.count(0), 0);
        for (int i = 0; i < 10; i++) {
            CHECK.due("feature " + i + " is not there", g.sees(0, 0, i), -2);
            CHECK.due("feature " + i, g.addFeature(7 - i % 2, 7 - i / 2, 20 + i, 1), i);
            CHECK.due("feature " + i + " is there", g.sees(0, 0, i), 1);
            CHECK.due("number of features", g.count(0), i + 1);
        }
        for (int i = 0; i < 3; i++) {
            CHECK.due("one too many, " + i, g.addFeature(i, i, 60, 9), -5);
            CHECK.due("its cell, " + i, g.kind(i, i), 0);
        }
        CHECK.due("the number stays", g.count(0), 10);
        CHECK.due("feature 10", g.sees(0, 0, 10), -2);
        CHECK.due("all are seen", g.seen(0, 0), 1023);
        for (int i = 0; i < 10; i++) {
            CHECK.due("height of feature " + i, g.height(7 - i % 2, 7 - i / 2), 20 + i);
        }
        g.reset(8, 8);
        CHECK.due("the first after a reset", g.addFeature(0, 0, 1, 1), 0);
    }

    /** "each in a cell of its own" */
    private static void eachFeatureInACellOfItsOwn() {
        ViewGarden g = new ViewGarden();
        g.addFeature(3, 3, 20, 2);
        CHECK.due("a second one in the cell", g.addFeature(3, 3, 50, 9), -6);
        CHECK.due("the same again", g.addFeature(3, 3, 20, 2), -6);
        CHECK.due("the height of the first", g.height(3, 3), 20);
        CHECK.dueDouble("the worth of the first", g.prospect(3, 2), 40.0);
        CHECK.due("features", g.count(0), 1);
        CHECK.due("beside it", g.addFeature(4, 3, 50, 9), 1);
        CHECK.due("below it", g.addFeature(3, 4, 50, 9), 2);
    }

    /** "with a height from 0 (a pond, say) to 60" */
    private static void aFeatureHasAHeightFrom0To60() {
        for (int height = 0; height <= 60; height++) {
            ViewGarden g = new ViewGarden();
            CHECK.due("addFeature, " + height + " high", g.addFeature(7, 0, height, 1), 0);
            CHECK.due("height of " + height, g.height(7, 0), height);
            CHECK.due("kind of " + height, g.kind(7, 0), 4);
            CHECK.dueDouble("prospect of " + height, g.prospect(6, 0), height);
        }
        ViewGarden g = new ViewGarden();
        g.plant(7, 0, 8);
        for (int height : new int[] {LEAST, -60, -1, 61, 62, 256, GREATEST}) {
            CHECK.due("addFeature, " + height + " high", g.addFeature(7, 0, height, 1), -4);
            CHECK.due("the hedge after " + height, g.height(7, 0), 8);
            CHECK.due("features after " + height, g.count(0), 0);
        }
    }

    /** "and a worth from 1 to 9" */
    private static void aFeatureHasAWorthFrom1To9() {
        for (int worth = 1; worth <= 9; worth++) {
            ViewGarden g = new ViewGarden();
            CHECK.due("addFeature of worth " + worth, g.addFeature(0, 7, 60, worth), 0);
            CHECK.dueDouble("prospect of worth " + worth, g.prospect(0, 6), 60.0 * worth);
        }
        ViewGarden g = new ViewGarden();
        g.lay(0, 7, 3);
        for (int worth : new int[] {LEAST, -9, -1, 0, 10, 11, 256 + 5, GREATEST}) {
            CHECK.due("addFeature of worth " + worth, g.addFeature(0, 7, 60, worth), -4);
            CHECK.due("the seat after " + worth, g.kind(0, 7), 3);
            CHECK.due("features after " + worth, g.count(0), 0);
        }
        CHECK.due("both are bad", g.addFeature(0, 7, 61, 10), -4);
        CHECK.due("the first number is still free", g.addFeature(0, 7, 0, 9), 0);
    }

    /** "features are never removed, except by reset" */
    private static void featuresAreNeverRemovedExceptByReset() {
        ViewGarden g = new ViewGarden();
        g.addFeature(4, 0, 60, 2);
        g.addFeature(7, 0, 0, 3);
        for (int kind : new int[] {0, 1, 3}) {
            CHECK.due("lay(4, 0, " + kind + ")", g.lay(4, 0, kind), -6);
        }
        CHECK.due("plant in it", g.plant(4, 0, 30), -6);
        CHECK.due("another one in it", g.addFeature(4, 0, 30, 5), -6);
        CHECK.due("clip over it", g.clip(0, 0, 1), 0);
        g.wish(0, 0, 1);
        CHECK.due("walk into it", g.walkTo(4, 0), -3);
        g.walkTo(3, 0);
        g.walkBack(1);
        g.clearWishes();
        CHECK.due("a refused reset", g.reset(2, 8), -4);
        CHECK.due("features", g.count(0), 2);
        CHECK.due("kind", g.kind(4, 0), 4);
        CHECK.due("height", g.height(4, 0), 60);
        CHECK.dueDouble("prospect", g.prospect(4, 1), 120.0);
        CHECK.due("a pond is one too", g.kind(7, 0), 4);
        g.reset(8, 8);
        CHECK.due("features after reset", g.count(0), 0);
        CHECK.due("kind after reset", g.kind(4, 0), 0);
        CHECK.due("height after reset", g.height(4, 0), 0);
        CHECK.due("seen after reset", g.seen(4, 1), 0);
    }

    // ---- places and eyes

    private static void placeOrNot(String what, ViewGarden g, int x, int y, boolean place) {
        int error = -3;
        CHECK.due("sees from " + what, g.sees(x, y, 0), place ? 1 : error);
        CHECK.due("seen from " + what, g.seen(x, y), place ? 1 : error);
        CHECK.due("blockers from " + what, g.blockers(x, y, 0), place ? 0 : error);
        CHECK.due("clipCost from " + what, g.clipCost(x, y, 0), place ? 0 : error);
        CHECK.due("clip from " + what, g.clip(x, y, 0), place ? 0 : error);
        CHECK.due("opening from " + what, g.opening(x, y, 0), place ? -7 : error);
        CHECK.due("wish from " + what, g.wish(x, y, 0), place ? 0 : error);
        CHECK.due("walkTo " + what, g.walkTo(x, y), place ? 1 : error);
        CHECK.dueDouble("prospect from " + what, g.prospect(x, y), place ? 10.0 : -1.0);
        CHECK.due("wishes after " + what, g.clearWishes(), place ? 1 : 0);
        CHECK.due("places after " + what, g.count(2), place ? 1 : 0);
        g.walkBack(g.count(2));
    }

    /** "A cell can be a place if it is a lawn, a path or a seat." */
    private static void aCellCanBeAPlaceIfLawnPathOrSeat() {
        ViewGarden g = new ViewGarden();
        g.addFeature(7, 7, 10, 4);
        placeOrNot("a lawn", g, 5, 7, true);
        g.lay(5, 7, 1);
        placeOrNot("a path", g, 5, 7, true);
        g.lay(5, 7, 3);
        placeOrNot("a seat", g, 5, 7, true);
        g.plant(5, 7, 1);
        placeOrNot("the lowest hedge", g, 5, 7, false);
        g.plant(5, 7, 40);
        placeOrNot("the highest hedge", g, 5, 7, false);
        g.lay(5, 7, 0);
        placeOrNot("a lawn again", g, 5, 7, true);
        g.addFeature(5, 7, 0, 1);
        placeOrNot("a pond", g, 5, 7, false);
        placeOrNot("the feature itself", g, 7, 7, false);
    }

    /** With a hedge in the middle of two cells, which is crossed from 1/4 to 3/4 of the way. */
    private static void eye(String what, int kind, int top, int clearance) {
        ViewGarden g = new ViewGarden();
        g.lay(0, 0, kind);
        g.addFeature(2, 0, top, 1);
        g.plant(1, 0, clearance);
        CHECK.due("from " + what + " to " + top + " over " + clearance, g.sees(0, 0, 0), 1);
        g.plant(1, 0, clearance + 1);
        CHECK.due("from " + what + " to " + top + " over 1 more", g.sees(0, 0, 0), 0);
    }

    /** "The eye of somebody in a place has the height 16, on a seat 11." */
    private static void theEyeHasTheHeight16OnASeat11() {
        int[][] standing = {{0, 4}, {15, 15}, {16, 16}, {17, 16}, {20, 17}, {60, 27}};
        for (int[] due : standing) {
            eye("a lawn", 0, due[0], due[1]);
            eye("a path", 1, due[0], due[1]);
        }
        int[][] sitting = {{0, 2}, {10, 10}, {11, 11}, {12, 11}, {15, 12}, {16, 12}, {60, 23}};
        for (int[] due : sitting) {
            eye("a seat", 3, due[0], due[1]);
        }
        ViewGarden g = new ViewGarden();
        g.addFeature(7, 0, 16, 1);
        g.plant(1, 0, 16);
        CHECK.due("from a lawn", g.sees(0, 0, 0), 1);
        g.lay(0, 0, 3);
        CHECK.due("when it becomes a seat", g.sees(0, 0, 0), 0);
        g.lay(0, 0, 1);
        CHECK.due("when it becomes a path", g.sees(0, 0, 0), 1);
        // A seat elsewhere lowers no other eye.
        g.lay(2, 0, 3);
        g.lay(0, 1, 3);
        CHECK.due("with seats elsewhere", g.sees(0, 0, 0), 1);
    }

    // ---- counting, and the last call

    /** "0 for features, 1 for hedges, 2 for places of the walk, 3 for wishes" */
    private static void countFrom0To3() {
        ViewGarden g = full();
        int[] due = {10, 8, 40, 10};
        for (int what = 0; what < 4; what++) {
            CHECK.due("count(" + what + ") of a full garden", g.count(what), due[what]);
        }
        for (int what : new int[] {LEAST, -1, 4, 256, GREATEST}) {
            CHECK.due("count(" + what + ")", g.count(what), -4);
        }
        g.reset(16, 12);
        for (int cell = 0; cell < 192; cell++) {
            g.plant(cell % 16, cell / 16, 1);
        }
        CHECK.due("a garden of hedges alone", g.count(1), 192);
        CHECK.due("it has no lawn", g.bestPlace(0), -7);
    }

    /** "An object is used for at most 512 calls after it has been made" */
    private static void theLastOf512Calls() {
        ViewGarden g = new ViewGarden();
        for (int call = 1; call < 512; call++) {
            g.plant(call % 8, call / 8 % 8, 1 + call % 40);
        }
        // Call 511 was plant(7, 7, 32).
        CHECK.due("the 512th call", g.height(7, 7), 32);
    }
}
