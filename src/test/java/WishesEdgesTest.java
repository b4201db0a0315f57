/** The sentences of the document's paragraph "Wishes", each with its edges; promises 20 to 24. */
public final class WishesEdgesTest {
    private static final Check CHECK = new Check("wishes edges");
    private static final int LEAST = Integer.MIN_VALUE;
    private static final int GREATEST = Integer.MAX_VALUE;

    public static void main(String[] args) {
        atMostTenWishes();
        theTenthWishCounts();
        clearWishesRemovesAll();
        noWish();
        theLeastHeightOfAllWishes();
        fromThePresentHeights();
        hedgesThatBlockNoneStay();
        wishesWhoseCellIsNoPlaceDoNotCount();
        aWishCountsAgainWhenItsCellIsAPlace();
        nothingChangesByWishes();
        eachHedgeCostsOnce();
        wishHeight0IfItWouldBecomeALawn();
        noneIfThereIsNoHedge();
        spoiledCountsEarlier();
        spoiledCountsWhatAppearsAtAll();
        spoiledDoesNotCountTheSamePlace();
        cellsThatAreNoPlaceNowShowNothing();
        CHECK.end();
    }

    // ---- the list

    /** "There are at most 10 wishes." */
    private static void atMostTenWishes() {
        ViewGarden g = new ViewGarden();
        g.addFeature(7, 7, 16, 1);
        for (int i = 0; i < 10; i++) {
            CHECK.due("wish number " + i, g.wish(i % 4, i / 4, 0), i);
            CHECK.due("count(3) at " + i, g.count(3), i + 1);
        }
        for (int i = 0; i < 3; i++) {
            CHECK.due("the eleventh", g.wish(5, 5, 0), -5);
            CHECK.due("still ten", g.count(3), 10);
        }
        CHECK.due("clear ten", g.clearWishes(), 10);
        CHECK.due("the first again", g.wish(5, 5, 0), 0);
        // One view may be wished for ten times.
        for (int i = 1; i < 10; i++) {
            CHECK.due("the same wish, " + i, g.wish(5, 5, 0), i);
        }
        CHECK.due("the same for the eleventh time", g.wish(5, 5, 0), -5);
    }

    /** Ten views of one statue in a row each; each wish lowers a hedge of its own by one. */
    private static void theTenthWishCounts() {
        ViewGarden g = new ViewGarden();
        g.reset(3, 12);
        for (int y = 0; y < 10; y++) {
            g.addFeature(2, y, 16, 1);
            g.plant(1, y, 17);
        }
        for (int y = 0; y < 10; y++) {
            CHECK.due("hedge " + y + " before its wish", g.wishHeight(1, y), 17);
            CHECK.due("wish " + y, g.wish(0, y, y), y);
            CHECK.due("hedge " + y, g.wishHeight(1, y), 16);
            CHECK.due("cost of " + (y + 1), g.wishCost(), y + 1);
        }
        g.plant(1, 10, 17);
        g.plant(1, 11, 17);
        CHECK.due("an eleventh", g.wish(0, 11, 9), -5);
        CHECK.due("it costs nothing", g.wishCost(), 10);
        CHECK.due("its hedge", g.wishHeight(1, 11), 17);
        CHECK.due("the tenth stands", g.wishHeight(1, 9), 16);
    }

    /** "Removes all wishes." */
    private static void clearWishesRemovesAll() {
        ViewGarden g = new ViewGarden();
        g.addFeature(2, 0, 16, 1);
        g.plant(1, 0, 20);
        CHECK.due("none to clear", g.clearWishes(), 0);
        for (int i = 0; i < 10; i++) {
            g.wish(0, 0, 0);
            CHECK.due("cost", g.wishCost(), 4);
            if (i == 0) {
                CHECK.due("clear one", g.clearWishes(), 1);
                CHECK.due("cost then", g.wishCost(), 0);
                g.wish(0, 0, 0);
            }
        }
        CHECK.due("clear ten", g.clearWishes(), 10);
        CHECK.due("none is left", g.count(3), 0);
        CHECK.due("they cost nothing", g.wishCost(), 0);
        CHECK.due("the hedge", g.wishHeight(1, 0), 20);
        CHECK.due("again", g.clearWishes(), 0);
    }

    private static void noWish() {
        ViewGarden g = new ViewGarden();
        g.plant(1, 0, 40);
        g.plant(7, 7, 1);
        CHECK.due("cost, no feature", g.wishCost(), 0);
        CHECK.due("height, no feature", g.wishHeight(1, 0), 40);
        CHECK.due("the lowest hedge", g.wishHeight(7, 7), 1);
        g.addFeature(2, 0, 0, 1);
        g.walkTo(0, 0);
        CHECK.due("cost", g.wishCost(), 0);
        CHECK.due("height", g.wishHeight(1, 0), 40);
        CHECK.due("spoiled", g.spoiled(), 0);
    }

    // ---- to fulfil all wishes

    /** A pond at (6, 0) behind a hedge at (4, 0): the line is 4, 6 and 8 high there from (0, 0), (2, 0) and (3, 0). */
    private static ViewGarden pondBehindHedge(int height) {
        ViewGarden g = new ViewGarden();
        g.addFeature(6, 0, 0, 1);
        g.plant(4, 0, height);
        return g;
    }

    /** "to lower each hedge to the least height to which clipping for one of the wishes alone would lower it" */
    private static void theLeastHeightOfAllWishes() {
        int[][] orders = {{0, 2, 3}, {0, 3, 2}, {2, 0, 3}, {2, 3, 0}, {3, 0, 2}, {3, 2, 0}};
        int[] clearances = {4, -1, 6, 8};
        for (int[] order : orders) {
            ViewGarden g = pondBehindHedge(40);
            int least = 40;
            for (int x : order) {
                g.wish(x, 0, 0);
                least = Math.min(least, clearances[x]);
                CHECK.due("the least height, " + x, g.wishHeight(4, 0), least);
                CHECK.due("its cost, " + x, g.wishCost(), 40 - least);
            }
        }
    }

    /** "from the present heights" */
    private static void fromThePresentHeights() {
        ViewGarden g = pondBehindHedge(40);
        g.wish(0, 0, 0);
        CHECK.due("of 40", g.wishCost(), 36);
        g.plant(4, 0, 6);
        CHECK.due("of 6", g.wishCost(), 2);
        g.plant(4, 0, 5);
        CHECK.due("of 5", g.wishCost(), 1);
        g.plant(4, 0, 4);
        CHECK.due("of 4", g.wishCost(), 0);
        CHECK.due("the height 4 stays", g.wishHeight(4, 0), 4);
        g.plant(4, 0, 3);
        CHECK.due("of 3", g.wishCost(), 0);
        CHECK.due("the height 3 stays", g.wishHeight(4, 0), 3);
        g.plant(4, 0, 40);
        CHECK.due("of 40 again", g.wishCost(), 36);
        CHECK.due("clip for another place", g.clip(3, 0, 0), 32);
        CHECK.due("of what is left", g.wishCost(), 4);
        g.lay(4, 0, 1);
        CHECK.due("no hedge is left", g.wishCost(), 0);
        g.plant(1, 0, 13);
        // 16 * 9 / 12 is 12.
        CHECK.due("a hedge planted after the wish", g.wishCost(), 1);
        g.lay(0, 0, 3);
        // 11 * 9 / 12 is 8 1/4.
        CHECK.due("from a seat laid after the wish", g.wishCost(), 5);
    }

    /** "hedges that block none of these views stay" */
    private static void hedgesThatBlockNoneStay() {
        ViewGarden g = pondBehindHedge(40);
        g.plant(1, 0, 12);
        g.plant(5, 0, 1);
        g.plant(4, 1, 40);
        g.plant(7, 0, 40);
        g.wish(0, 0, 0);
        CHECK.due("as high as the line", g.wishHeight(1, 0), 12);
        CHECK.due("low enough", g.wishHeight(5, 0), 1);
        CHECK.due("beside the line", g.wishHeight(4, 1), 40);
        CHECK.due("behind the pond", g.wishHeight(7, 0), 40);
        CHECK.due("the one that blocks", g.wishHeight(4, 0), 4);
        CHECK.due("it alone costs", g.wishCost(), 36);
    }

    /** "(Wishes whose cell cannot be a place, or not any more, do not count.)" */
    private static void wishesWhoseCellIsNoPlaceDoNotCount() {
        ViewGarden g = pondBehindHedge(40);
        g.plant(1, 0, 3);
        CHECK.due("a wish in a hedge", g.wish(4, 0, 0), -3);
        CHECK.due("a wish in the pond", g.wish(6, 0, 0), -3);
        CHECK.due("no wish", g.count(3), 0);
        g.wish(0, 0, 0);
        g.wish(2, 0, 0);
        g.wish(3, 0, 0);
        CHECK.due("all three", g.wishHeight(4, 0), 4);
        g.plant(0, 0, 1);
        CHECK.due("one in a hedge now", g.wishHeight(4, 0), 6);
        CHECK.due("one in a hedge now, cost", g.wishCost(), 34);
        g.addFeature(2, 0, 0, 1);
        CHECK.due("one in a feature now", g.wishHeight(4, 0), 8);
        CHECK.due("one in a feature now, cost", g.wishCost(), 32);
        g.plant(3, 0, 40);
        CHECK.due("none counts", g.wishHeight(4, 0), 40);
        CHECK.due("none costs", g.wishCost(), 0);
        CHECK.due("they are kept", g.count(3), 3);
        g.walkTo(5, 1);
        CHECK.due("nothing is spoiled", g.spoiled(), 0);
        CHECK.due("and cleared", g.clearWishes(), 3);
    }

    private static void aWishCountsAgainWhenItsCellIsAPlace() {
        ViewGarden g = pondBehindHedge(40);
        g.wish(0, 0, 0);
        int[][] due = {{0, 4}, {1, 4}, {3, 2}};
        for (int[] laid : due) {
            g.plant(0, 0, 40);
            CHECK.due("in a hedge", g.wishHeight(4, 0), 40);
            g.lay(0, 0, laid[0]);
            CHECK.due("in a " + laid[0], g.wishHeight(4, 0), laid[1]);
        }
    }

    /** "Wishes are only considered; nothing changes by them." */
    private static void nothingChangesByWishes() {
        CHECK.dueText("the garden after questions", picture(true), picture(false));
        ViewGarden g = pondBehindHedge(40);
        g.wish(0, 0, 0);
        g.wishCost();
        g.wishHeight(4, 0);
        g.spoiled();
        CHECK.due("height", g.height(4, 0), 40);
        CHECK.due("kind", g.kind(4, 0), 2);
        CHECK.due("sees", g.sees(0, 0, 0), 0);
        CHECK.due("blockers", g.blockers(0, 0, 0), 1);
        CHECK.due("clip", g.clip(0, 0, 0), 36);
    }

    private static String picture(boolean ask) {
        ViewGarden g = pondBehindHedge(40);
        g.addFeature(0, 7, 60, 9);
        g.plant(0, 5, 40);
        g.plant(5, 0, 9);
        g.walkTo(0, 0);
        g.walkTo(0, 1);
        g.wish(0, 0, 0);
        g.wish(0, 1, 1);
        if (ask) {
            g.wishCost();
            g.wishHeight(5, 0);
            g.spoiled();
            g.clipCost(0, 0, 0);
        }
        return Picture.of(g);
    }

    /** "the sum of the differences by which hedges would be lowered": a hedge of several wishes counts once. */
    private static void eachHedgeCostsOnce() {
        ViewGarden g = pondBehindHedge(40);
        for (int i = 0; i < 10; i++) {
            g.wish(i % 4, 0, 0);
            CHECK.due(i + 1 + " wishes", g.wishCost(), 36);
        }
        g.plant(5, 0, 40);
        // 16 / 12 is left behind (5, 0).
        CHECK.due("two hedges", g.wishCost(), 36 + 39);
        CHECK.due("the second", g.wishHeight(5, 0), 1);
    }

    // ---- wishHeight

    /** "(0 if it would become a lawn)" */
    private static void wishHeight0IfItWouldBecomeALawn() {
        for (int height : new int[] {1, 40}) {
            ViewGarden g = new ViewGarden();
            g.reset(16, 3);
            g.addFeature(9, 0, 0, 1);
            g.plant(8, 0, height);
            g.wish(1, 0, 0);
            // 16 / 16 is left from 8 cells away, 16 / 18 from 9 cells.
            CHECK.due("1 is left of " + height, g.wishHeight(8, 0), 1);
            CHECK.due("cost to 1 of " + height, g.wishCost(), height - 1);
            g.wish(0, 0, 0);
            CHECK.due("0 is left of " + height, g.wishHeight(8, 0), 0);
            CHECK.due("cost to 0 of " + height, g.wishCost(), height);
            CHECK.due("it is a hedge still", g.kind(8, 0), 2);
            CHECK.due("of its height", g.height(8, 0), height);
            CHECK.due("clip it", g.clip(0, 0, 0), height);
            CHECK.due("no hedge any more", g.wishHeight(8, 0), -7);
        }
    }

    /** "NO_SUCH_CELL; NONE if there is no hedge in the cell" */
    private static void noneIfThereIsNoHedge() {
        ViewGarden g = pondBehindHedge(40);
        g.wish(0, 0, 0);
        CHECK.due("a lawn", g.wishHeight(0, 0), -7);
        CHECK.due("the pond", g.wishHeight(6, 0), -7);
        for (int kind : new int[] {0, 1, 3}) {
            g.lay(7, 7, kind);
            CHECK.due("a laid cell, " + kind, g.wishHeight(7, 7), -7);
        }
        g.addFeature(7, 7, 60, 1);
        CHECK.due("a statue", g.wishHeight(7, 7), -7);
        int[][] nowhere = {{-1, 0}, {0, -1}, {8, 0}, {0, 8}, {20, -1}, {-12, 1}, {4, 1 << 28}, {LEAST, 0}, {4, LEAST}, {GREATEST, 0}, {4, GREATEST}};
        for (int[] cell : nowhere) {
            CHECK.due("wishHeight(" + cell[0] + ", " + cell[1] + ")", g.wishHeight(cell[0], cell[1]), -1);
        }
    }

    // ---- spoiled

    /** "Counts the features that would appear earlier on the walk" */
    private static void spoiledCountsEarlier() {
        ViewGarden g = new ViewGarden();
        g.addFeature(7, 0, 16, 1);
        g.plant(1, 0, 17);
        g.walkTo(0, 0);
        g.walkTo(0, 1);
        CHECK.due("appears second", g.appears(0), 1);
        CHECK.due("without a wish", g.spoiled(), 0);
        g.wish(0, 0, 0);
        CHECK.due("one place earlier", g.spoiled(), 1);
        CHECK.due("still second", g.appears(0), 1);
        g.clip(0, 0, 0);
        CHECK.due("nothing to spoil any more", g.spoiled(), 0);
    }

    /** "(or appear at all, if they do not now)" */
    private static void spoiledCountsWhatAppearsAtAll() {
        ViewGarden g = new ViewGarden();
        g.addFeature(7, 0, 16, 1);
        g.addFeature(0, 7, 16, 1);
        g.plant(1, 0, 17);
        g.plant(0, 1, 17);
        g.walkTo(0, 0);
        CHECK.due("none appears", g.shown(0), -7);
        g.wish(0, 0, 0);
        CHECK.due("one at all", g.spoiled(), 1);
        g.wish(0, 0, 1);
        CHECK.due("two at all", g.spoiled(), 2);
        g.plant(0, 0, 1);
        CHECK.due("no place", g.spoiled(), 0);
        g.lay(0, 0, 0);
        CHECK.due("a place again", g.spoiled(), 2);
        g.walkBack(1);
        CHECK.due("no walk", g.spoiled(), 0);
    }

    /** A feature that would appear at the same place as now, or still not at all, is not counted. */
    private static void spoiledDoesNotCountTheSamePlace() {
        ViewGarden g = new ViewGarden();
        g.addFeature(7, 0, 16, 1);
        g.addFeature(0, 7, 16, 1);
        g.plant(1, 0, 17);
        g.plant(0, 6, 17);
        g.plant(1, 7, 17);
        g.walkTo(0, 1);
        g.walkTo(0, 0);
        CHECK.due("appears at the start", g.appears(0), 0);
        CHECK.due("does not appear", g.appears(1), -7);
        g.wish(0, 0, 0);
        CHECK.due("a wish for a later place", g.wishCost(), 1);
        CHECK.due("spoils nothing", g.spoiled(), 0);
        g.wish(2, 7, 1);
        CHECK.due("a wish beside the walk", g.wishCost(), 2);
        CHECK.due("spoils nothing either", g.spoiled(), 0);
        g.wish(0, 0, 1);
        CHECK.due("a wish on the walk does", g.spoiled(), 1);
    }

    /** "Cells of the walk that cannot be a place now show nothing in both cases." */
    private static void cellsThatAreNoPlaceNowShowNothing() {
        ViewGarden g = new ViewGarden();
        g.reset(16, 3);
        g.addFeature(10, 0, 0, 1);
        g.walkTo(9, 0);
        g.plant(9, 0, 40);
        g.wish(0, 0, 0);
        CHECK.due("it would be a lawn", g.wishHeight(9, 0), 0);
        CHECK.due("but shows nothing", g.spoiled(), 0);
        CHECK.due("clip it", g.clip(0, 0, 0), 40);
        CHECK.due("then it shows", g.appears(0), 0);
        CHECK.due("and nothing is spoiled", g.spoiled(), 0);
        // The next place of the walk shows the pond when the hedge is gone.
        g.plant(9, 0, 40);
        g.walkTo(8, 0);
        CHECK.due("the next place", g.spoiled(), 1);
    }
}
