/** Promises 20 to 24: wishes and what they would spoil. */
public final class WishesTest {
    private static final Check CHECK = new Check("wishes");
    private static final int LEAST = Integer.MIN_VALUE;
    private static final int GREATEST = Integer.MAX_VALUE;

    public static void main(String[] args) {
        promise20Wish();
        promise20Refused();
        promise21ClearWishes();
        promise22LeastHeightCounts();
        promise22PresentHeightsCount();
        promise22LostPlacesDoNotCount();
        promise23WishHeight();
        promise23Errors();
        promise24Spoiled();
        promise24CellsThatWouldBecomeLawn();
        promise24AllFeatures();
        CHECK.end();
    }

    private static void promise20Wish() {
        ViewGarden g = new ViewGarden();
        g.addFeature(7, 7, 16, 1);
        g.lay(1, 0, 1);
        g.lay(2, 0, 3);
        CHECK.due("a wish from a lawn", g.wish(0, 0, 0), 0);
        CHECK.due("from a path", g.wish(1, 0, 0), 1);
        CHECK.due("from a seat", g.wish(2, 0, 0), 2);
        CHECK.due("the same again", g.wish(0, 0, 0), 3);
        for (int i = 4; i < 10; i++) {
            CHECK.due("wish " + i, g.wish(i - 2, 1, 0), i);
        }
        CHECK.due("an eleventh", g.wish(0, 0, 0), -5);
        CHECK.due("an eleventh from a feature", g.wish(7, 7, 0), -3);
        CHECK.due("an eleventh of none", g.wish(0, 0, 1), -2);
        CHECK.due("an eleventh from outside", g.wish(8, 0, 0), -1);
        CHECK.due("count", g.count(3), 10);
    }

    private static void promise20Refused() {
        ViewGarden g = new ViewGarden();
        CHECK.due("wish without features", g.wish(0, 0, 0), -2);
        g.addFeature(7, 7, 16, 1);
        g.plant(3, 3, 3);
        int[][] nowhere = {{-1, 0}, {0, -1}, {8, 0}, {0, 8}, {LEAST, 0}, {0, GREATEST}};
        for (int[] cell : nowhere) {
            CHECK.due("wish outside", g.wish(cell[0], cell[1], 0), -1);
            CHECK.due("wish outside of none", g.wish(cell[0], cell[1], 1), -1);
        }
        for (int feature : new int[] {-1, 1, LEAST, GREATEST}) {
            CHECK.due("wish of feature " + feature, g.wish(0, 0, feature), -2);
            CHECK.due("wish of feature " + feature + " from a hedge", g.wish(3, 3, feature), -2);
        }
        CHECK.due("wish from a hedge", g.wish(3, 3, 0), -3);
        CHECK.due("wish from the feature", g.wish(7, 7, 0), -3);
        CHECK.due("none was added", g.count(3), 0);
    }

    private static void promise21ClearWishes() {
        ViewGarden g = new ViewGarden();
        CHECK.due("clearWishes(), none", g.clearWishes(), 0);
        g.addFeature(5, 0, 16, 1);
        g.plant(3, 0, 20);
        g.wish(0, 0, 0);
        g.wish(1, 0, 0);
        CHECK.due("wishCost() before", g.wishCost(), 4);
        CHECK.due("clearWishes()", g.clearWishes(), 2);
        CHECK.due("count(3)", g.count(3), 0);
        CHECK.due("wishCost() after", g.wishCost(), 0);
        CHECK.due("clearWishes() again", g.clearWishes(), 0);
        CHECK.due("numbers begin anew", g.wish(1, 0, 0), 0);
        CHECK.due("the feature stays", g.count(0), 1);
    }

    /** A pond at (6, 0) behind a hedge of 40 at (4, 0): clearances of 4 from (0, 0) and of 6 from (2, 0). */
    private static ViewGarden pondBehindHedge() {
        ViewGarden g = new ViewGarden();
        g.addFeature(6, 0, 0, 1);
        g.plant(4, 0, 40);
        return g;
    }

    private static void promise22LeastHeightCounts() {
        ViewGarden g = pondBehindHedge();
        CHECK.due("no wish", g.wishCost(), 0);
        g.wish(2, 0, 0);
        CHECK.due("one wish", g.wishCost(), 34);
        CHECK.due("its height", g.wishHeight(4, 0), 6);
        g.wish(0, 0, 0);
        CHECK.due("a second that is lower", g.wishCost(), 36);
        CHECK.due("the least height", g.wishHeight(4, 0), 4);
        g.wish(2, 0, 0);
        CHECK.due("the first again", g.wishCost(), 36);
        CHECK.due("nothing changes", g.height(4, 0), 40);
        CHECK.due("the hedge is there", g.kind(4, 0), 2);
        CHECK.due("the view is blocked", g.sees(0, 0, 0), 0);
        g.plant(0, 4, 30);
        g.addFeature(0, 7, 16, 1);
        g.wish(0, 0, 1);
        CHECK.due("two hedges", g.wishCost(), 36 + 14);
        CHECK.due("clipCost is of one view", g.clipCost(0, 0, 1), 14);
        CHECK.due("wishCost after it", g.wishCost(), 50);
    }

    private static void promise22PresentHeightsCount() {
        ViewGarden g = pondBehindHedge();
        g.wish(0, 0, 0);
        g.plant(4, 0, 5);
        CHECK.due("the height that is there now", g.wishCost(), 1);
        g.plant(4, 0, 4);
        CHECK.due("a hedge that does not block", g.wishCost(), 0);
        CHECK.due("it stays", g.wishHeight(4, 0), 4);
        g.plant(4, 0, 2);
        CHECK.due("a low one stays too", g.wishHeight(4, 0), 2);
        g.plant(2, 0, 20);
        CHECK.due("a hedge planted after the wish", g.wishCost(), 20 - 9);
        g.lay(0, 0, 3);
        // From the seat the line is 11 * 3.5 / 6 = 6 5/12 high behind (2, 0).
        CHECK.due("a seat laid after the wish", g.wishCost(), 20 - 6);
        CHECK.due("clip for it", g.clip(0, 0, 0), 14);
        CHECK.due("nothing is left to do", g.wishCost(), 0);
    }

    private static void promise22LostPlacesDoNotCount() {
        ViewGarden g = pondBehindHedge();
        g.wish(0, 0, 0);
        g.wish(2, 0, 0);
        g.plant(0, 0, 7);
        CHECK.due("a wish in a hedge", g.wishCost(), 34);
        CHECK.due("its height", g.wishHeight(4, 0), 6);
        g.lay(0, 0, 1);
        CHECK.due("it counts again", g.wishCost(), 36);
        g.addFeature(0, 0, 9, 1);
        CHECK.due("a wish in a feature", g.wishCost(), 34);
        g.plant(2, 0, 40);
        CHECK.due("no wish is left", g.wishCost(), 0);
        CHECK.due("they are wishes still", g.count(3), 2);
        CHECK.due("no height is lowered", g.wishHeight(4, 0), 40);
    }

    private static void promise23WishHeight() {
        ViewGarden g = new ViewGarden();
        g.reset(16, 3);
        g.addFeature(9, 0, 0, 1);
        g.plant(8, 0, 5);
        g.plant(8, 1, 6);
        CHECK.due("no wish", g.wishHeight(8, 0), 5);
        g.wish(0, 0, 0);
        CHECK.due("it would become a lawn", g.wishHeight(8, 0), 0);
        CHECK.due("a hedge beside the line", g.wishHeight(8, 1), 6);
        CHECK.due("it is no lawn yet", g.wishHeight(8, 0), 0);
        CHECK.due("kind(8, 0)", g.kind(8, 0), 2);
        CHECK.due("cost", g.wishCost(), 5);
    }

    private static void promise23Errors() {
        ViewGarden g = new ViewGarden();
        g.addFeature(5, 5, 12, 1);
        g.lay(1, 1, 1);
        g.lay(2, 2, 3);
        CHECK.due("of a lawn", g.wishHeight(0, 0), -7);
        CHECK.due("of a path", g.wishHeight(1, 1), -7);
        CHECK.due("of a seat", g.wishHeight(2, 2), -7);
        CHECK.due("of a feature", g.wishHeight(5, 5), -7);
        int[][] nowhere = {{-1, 0}, {0, -1}, {8, 0}, {0, 8}, {LEAST, 0}, {0, LEAST}, {GREATEST, GREATEST}};
        for (int[] cell : nowhere) {
            CHECK.due("wishHeight outside", g.wishHeight(cell[0], cell[1]), -1);
        }
    }

    private static void promise24Spoiled() {
        ViewGarden g = new ViewGarden();
        CHECK.due("spoiled(), nothing there", g.spoiled(), 0);
        g.addFeature(7, 0, 16, 1);
        g.addFeature(7, 1, 0, 1);
        g.addFeature(0, 7, 16, 1);
        g.plant(1, 0, 40);
        g.plant(1, 1, 40);
        g.walkTo(0, 0);
        g.walkTo(0, 1);
        g.walkTo(0, 2);
        CHECK.due("appears(0)", g.appears(0), 2);
        CHECK.due("appears(1)", g.appears(1), 2);
        CHECK.due("appears(2)", g.appears(2), 0);
        CHECK.due("no wish", g.spoiled(), 0);
        // The line to the pond falls, so the clipping for the first one does not reveal it.
        g.wish(0, 0, 0);
        CHECK.due("the first one earlier", g.spoiled(), 1);
        CHECK.due("nothing has changed", g.appears(0), 2);
        g.wish(0, 1, 1);
        CHECK.due("both earlier", g.spoiled(), 2);
        g.wish(0, 0, 2);
        CHECK.due("one that appears at the start", g.spoiled(), 2);
        g.walkBack(1);
        CHECK.due("or appear at all", g.spoiled(), 2);
        g.walkBack(2);
        CHECK.due("no walk", g.spoiled(), 0);
        g.walkTo(0, 2);
        CHECK.due("seen at the start of another walk", g.spoiled(), 0);
    }

    private static void promise24CellsThatWouldBecomeLawn() {
        ViewGarden g = new ViewGarden();
        g.reset(16, 3);
        g.addFeature(9, 0, 0, 1);
        g.walkTo(8, 0);
        g.plant(8, 0, 5);
        g.wish(0, 0, 0);
        CHECK.due("it would become a lawn", g.wishHeight(8, 0), 0);
        CHECK.due("but shows nothing in both cases", g.spoiled(), 0);
        g.walkTo(7, 0);
        CHECK.due("the next place does", g.spoiled(), 1);
        g.addFeature(7, 0, 1, 1);
        CHECK.due("no place any more", g.spoiled(), 0);
    }

    private static void promise24AllFeatures() {
        ViewGarden g = new ViewGarden();
        g.reset(16, 12);
        for (int i = 0; i < 10; i++) {
            g.addFeature(15, i + 1, 16, 1);
            g.plant(1, i + 1, 17);
            g.plant(0, i + 1, 17);
        }
        g.plant(1, 0, 17);
        g.walkTo(0, 0);
        for (int i = 0; i < 10; i++) {
            CHECK.due("behind the wall, appears(" + i + ")", g.appears(i), -7);
        }
        g.wish(0, 0, 0);
        // The lines to rows 1 to 5 leave column 1 in row 0, the others in row 1.
        CHECK.due("five appear by one opening", g.spoiled(), 5);
        g.wish(0, 0, 9);
        CHECK.due("all ten appear by two", g.spoiled(), 10);
        g.reset(16, 12);
        CHECK.due("nothing of them is left", g.spoiled(), 0);
        g.addFeature(15, 1, 16, 1);
        g.plant(1, 0, 17);
        g.walkTo(0, 0);
        g.wish(0, 0, 0);
        CHECK.due("one feature alone after the reset", g.spoiled(), 1);
    }
}
