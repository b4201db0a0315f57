/** Promises 15 to 19: the walk and what appears on it. */
public final class WalkTest {
    private static final Check CHECK = new Check("walk");
    private static final int LEAST = Integer.MIN_VALUE;
    private static final int GREATEST = Integer.MAX_VALUE;

    public static void main(String[] args) {
        promise15WalkTo();
        promise15Refused();
        promise15Full();
        promise16WalkBack();
        promises17To19Order();
        changedCellsShowNothing();
        promise17Errors();
        promise18Errors();
        promise19Errors();
        CHECK.end();
    }

    private static void promise15WalkTo() {
        ViewGarden g = new ViewGarden();
        CHECK.due("the first place is anywhere", g.walkTo(7, 7), 1);
        CHECK.due("left", g.walkTo(6, 7), 2);
        CHECK.due("up", g.walkTo(6, 6), 3);
        CHECK.due("right", g.walkTo(7, 6), 4);
        CHECK.due("down, where it has been", g.walkTo(7, 7), 5);
        g.lay(6, 7, 1);
        CHECK.due("a path", g.walkTo(6, 7), 6);
        g.lay(5, 7, 3);
        CHECK.due("a seat", g.walkTo(5, 7), 7);
        CHECK.due("length", g.count(2), 7);
        // The last place of the walk counts as it stands in the list, whatever is there now.
        g.plant(5, 7, 9);
        CHECK.due("from a cell that is a hedge now", g.walkTo(4, 7), 8);
    }

    private static void promise15Refused() {
        ViewGarden g = new ViewGarden();
        g.addFeature(4, 4, 10, 1);
        g.plant(3, 3, 10);
        int[][] nowhere = {{-1, 0}, {0, -1}, {8, 0}, {0, 8}, {LEAST, 0}, {0, GREATEST}};
        for (int[] cell : nowhere) {
            CHECK.due("walkTo outside, first", g.walkTo(cell[0], cell[1]), -1);
        }
        CHECK.due("first into a hedge", g.walkTo(3, 3), -3);
        CHECK.due("first into a feature", g.walkTo(4, 4), -3);
        CHECK.due("nothing was added", g.count(2), 0);
        g.walkTo(3, 4);
        CHECK.due("into a neighbouring hedge", g.walkTo(3, 3), -3);
        CHECK.due("into a neighbouring feature", g.walkTo(4, 4), -3);
        int[][] far = {{3, 4}, {2, 3}, {2, 5}, {4, 5}, {5, 4}, {1, 4}, {3, 6}, {3, 2}, {0, 0}, {7, 4}};
        for (int[] cell : far) {
            CHECK.due("walkTo(" + cell[0] + ", " + cell[1] + ") from (3, 4)", g.walkTo(cell[0], cell[1]), -6);
        }
        CHECK.due("still one place", g.count(2), 1);
        g.plant(0, 0, 3);
        CHECK.due("NO_PLACE before NOT_POSSIBLE", g.walkTo(0, 0), -3);
        g.reset(16, 12);
        g.walkTo(15, 4);
        CHECK.due("the next row's first cell is no neighbour", g.walkTo(0, 5), -6);
        g.walkBack(1);
        g.walkTo(0, 5);
        CHECK.due("nor is the row before's last one", g.walkTo(15, 4), -6);
    }

    private static void promise15Full() {
        ViewGarden g = new ViewGarden();
        for (int i = 0; i < 40; i++) {
            CHECK.due("place " + i, g.walkTo(i % 2, 0), i + 1);
        }
        CHECK.due("one more", g.walkTo(0, 0), -5);
        CHECK.due("NOT_POSSIBLE before FULL", g.walkTo(1, 0), -6);
        CHECK.due("NOT_POSSIBLE before FULL, far", g.walkTo(5, 5), -6);
        g.plant(0, 0, 4);
        CHECK.due("NO_PLACE before FULL", g.walkTo(0, 0), -3);
        CHECK.due("NO_SUCH_CELL before FULL", g.walkTo(1, -1), -1);
        CHECK.due("length", g.count(2), 40);
        CHECK.due("back", g.walkBack(1), 39);
        CHECK.due("again, from (0, 0)", g.walkTo(1, 1), -6);
        CHECK.due("again", g.walkTo(0, 1), 40);
    }

    private static void promise16WalkBack() {
        ViewGarden g = new ViewGarden();
        CHECK.due("walkBack(0), empty", g.walkBack(0), 0);
        CHECK.due("walkBack(1), empty", g.walkBack(1), -4);
        for (int x = 0; x < 6; x++) {
            g.walkTo(x, 0);
        }
        for (int n : new int[] {-1, 7, LEAST, GREATEST}) {
            CHECK.due("walkBack(" + n + ")", g.walkBack(n), -4);
        }
        CHECK.due("nothing was removed", g.count(2), 6);
        CHECK.due("walkBack(0)", g.walkBack(0), 6);
        CHECK.due("walkBack(2)", g.walkBack(2), 4);
        CHECK.due("count", g.count(2), 4);
        CHECK.due("the end is where it was then", g.walkTo(3, 1), 5);
        CHECK.due("walkBack(5)", g.walkBack(5), 0);
        CHECK.due("anywhere again", g.walkTo(7, 7), 1);
    }

    /** A walk down column 0, with a wall in column 1 that has gaps; each feature is in column 2. */
    private static ViewGarden gardenWithWall() {
        ViewGarden g = new ViewGarden();
        g.reset(3, 8);
        for (int y = 0; y < 8; y++) {
            g.plant(1, y, 40);
        }
        g.addFeature(2, 5, 16, 1);
        g.addFeature(2, 3, 16, 1);
        g.addFeature(2, 7, 16, 1);
        g.addFeature(2, 2, 16, 1);
        g.addFeature(2, 0, 16, 1);
        for (int y = 0; y < 7; y++) {
            g.walkTo(0, y);
        }
        return g;
    }

    private static void promises17To19Order() {
        ViewGarden g = gardenWithWall();
        for (int f = 0; f < 5; f++) {
            CHECK.due("behind the wall, appears(" + f + ")", g.appears(f), -7);
        }
        CHECK.due("behind the wall, shown(0)", g.shown(0), -7);
        g.lay(1, 3, 0);
        CHECK.due("appears(1) right across", g.appears(1), 3);
        g.lay(1, 5, 0);
        CHECK.due("appears(0) right across", g.appears(0), 5);
        g.lay(1, 4, 0);
        // A line that goes down by k rows is in column 1 from k/4 to 3k/4 rows below its start.
        int[] places = {2, 3, 1, 4, -7};
        for (int feature = 0; feature < 5; feature++) {
            CHECK.due("wide gap: appears(" + feature + ")", g.appears(feature), places[feature]);
        }
        int[] sets = {0, 4, 1, 2, 8, 0, 0};
        for (int place = 0; place < 7; place++) {
            CHECK.due("wide gap: surprises(" + place + ")", g.surprises(place), sets[place]);
        }
        int[] order = {2, 0, 1, 3, -7, -7};
        for (int k = 0; k < 6; k++) {
            CHECK.due("wide gap: shown(" + k + ")", g.shown(k), order[k]);
        }
        orderAndTheWayBack();
    }

    private static void orderAndTheWayBack() {
        ViewGarden g = gardenWithWall();
        g.lay(1, 0, 0);
        g.lay(1, 2, 0);
        g.lay(1, 5, 0);
        CHECK.due("gaps: appears(4)", g.appears(4), 0);
        CHECK.due("gaps: appears(3)", g.appears(3), 2);
        CHECK.due("gaps: appears(0)", g.appears(0), 5);
        CHECK.due("gaps: appears(2)", g.appears(2), -7);
        CHECK.due("gaps: appears(1)", g.appears(1), 1);
        CHECK.due("gaps: shown(0)", g.shown(0), 4);
        CHECK.due("gaps: shown(1)", g.shown(1), 1);
        CHECK.due("gaps: shown(2)", g.shown(2), 3);
        CHECK.due("gaps: shown(3)", g.shown(3), 0);
        CHECK.due("gaps: shown(4)", g.shown(4), -7);
        CHECK.due("gaps: surprises(5)", g.surprises(5), 1);
        CHECK.due("gaps: walkBack(2)", g.walkBack(2), 5);
        CHECK.due("gaps: appears(0) no more", g.appears(0), -7);
        CHECK.due("gaps: shown(3) no more", g.shown(3), -7);
        // The way back comes to the same cells, at which nothing appears a second time.
        g.walkTo(0, 3);
        g.walkTo(0, 2);
        CHECK.due("gaps: count", g.count(2), 7);
        CHECK.due("gaps: surprises(6)", g.surprises(6), 0);
        CHECK.due("gaps: surprises(2)", g.surprises(2), 8);
    }

    private static void changedCellsShowNothing() {
        ViewGarden g = new ViewGarden();
        g.addFeature(5, 0, 16, 1);
        g.addFeature(5, 1, 16, 1);
        g.walkTo(0, 0);
        g.walkTo(0, 1);
        g.walkTo(0, 2);
        CHECK.due("appears(0) at the start", g.appears(0), 0);
        CHECK.due("surprises(0) at the start", g.surprises(0), 3);
        CHECK.due("surprises(1) has none of them", g.surprises(1), 0);
        g.plant(0, 0, 1);
        CHECK.due("a hedge shows nothing", g.appears(0), 1);
        CHECK.due("surprises there", g.surprises(0), 0);
        CHECK.due("surprises at the next", g.surprises(1), 3);
        g.addFeature(0, 1, 1, 1);
        CHECK.due("nor does a feature", g.appears(1), 2);
        CHECK.due("it appears itself", g.appears(2), 2);
        CHECK.due("surprises there too", g.surprises(1), 0);
        CHECK.due("shown(0)", g.shown(0), 0);
        CHECK.due("shown(2)", g.shown(2), 2);
        CHECK.due("the walk is as long", g.count(2), 3);
        g.lay(0, 0, 3);
        CHECK.due("a seat shows again", g.appears(0), 0);
    }

    private static void promise17Errors() {
        ViewGarden g = new ViewGarden();
        CHECK.due("appears(0) without features", g.appears(0), -2);
        g.addFeature(0, 0, 1, 1);
        CHECK.due("appears(0) without a walk", g.appears(0), -7);
        for (int feature : new int[] {-1, 1, 10, LEAST, GREATEST}) {
            CHECK.due("appears(" + feature + ")", g.appears(feature), -2);
        }
    }

    private static void promise18Errors() {
        ViewGarden g = new ViewGarden();
        CHECK.due("surprises(0) without a walk", g.surprises(0), -4);
        g.addFeature(0, 0, 1, 1);
        g.walkTo(4, 4);
        g.walkTo(4, 5);
        g.walkBack(1);
        for (int place : new int[] {-1, 1, 40, LEAST, GREATEST}) {
            CHECK.due("surprises(" + place + ")", g.surprises(place), -4);
        }
        CHECK.due("surprises(0)", g.surprises(0), 1);
    }

    private static void promise19Errors() {
        ViewGarden g = new ViewGarden();
        CHECK.due("shown(-1) without features", g.shown(-1), -4);
        CHECK.due("shown(0) without features", g.shown(0), -7);
        g.addFeature(0, 0, 1, 1);
        g.walkTo(4, 4);
        CHECK.due("shown(0)", g.shown(0), 0);
        CHECK.due("shown(1)", g.shown(1), -7);
        CHECK.due("shown(-1)", g.shown(-1), -4);
        CHECK.due("shown(least)", g.shown(LEAST), -4);
        CHECK.due("shown(greatest)", g.shown(GREATEST), -7);
    }
}
