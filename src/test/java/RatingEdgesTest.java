/** The sentences of the document's paragraph "Rating" and of promises 25 to 27, each with its edges. */
public final class RatingEdgesTest {
    private static final Check CHECK = new Check("rating edges");
    private static final int LEAST = Integer.MIN_VALUE;
    private static final int GREATEST = Integer.MAX_VALUE;
    private static final int[] PLACE_KINDS = {0, 1, 3};

    public static void main(String[] args) {
        beginWithZero();
        onlyFeaturesThatCanBeSeen();
        theProductIsDividedAsADouble();
        theSquareOfTheDistance();
        inAscendingOrderOfTheNumbers();
        theLeastAndTheGreatestProspect();
        minusOneIfNoCellOrNoPlace();
        theFirstByRowThenByColumn();
        theFirstOfSeveralThatSeeNothing();
        theGreatestOfAKind();
        theLastCellCanBeTheBest();
        noneIfThereIsNoCellOfTheKind();
        onlyKinds0And1And3();
        minusOneIfTheWalkIsEmpty();
        aCellThatIsNoPlaceAddsNothing();
        theMeanOf40Places();
        theSumIsADouble();
        thePlacesAreAddedInTheirOrder();
        CHECK.end();
    }

    // ---- prospect

    /** "begin with 0.0" */
    private static void beginWithZero() {
        ViewGarden g = new ViewGarden();
        CHECK.dueDouble("no feature", g.prospect(7, 7), 0.0);
        g.addFeature(0, 0, 0, 9);
        CHECK.dueDouble("a pond", g.prospect(1, 0), 0.0);
        g.addFeature(4, 0, 60, 9);
        g.plant(3, 0, 40);
        CHECK.dueDouble("a hidden feature", g.prospect(1, 0), 0.0);
        g.reset(8, 8);
        CHECK.dueDouble("after a reset", g.prospect(1, 0), 0.0);
    }

    /** "for each feature that can be seen from the place" */
    private static void onlyFeaturesThatCanBeSeen() {
        ViewGarden g = new ViewGarden();
        g.addFeature(4, 0, 16, 1);
        g.addFeature(0, 4, 16, 2);
        CHECK.dueDouble("both", g.prospect(0, 0), 3.0);
        g.plant(2, 0, 16);
        CHECK.dueDouble("a hedge that does not block", g.prospect(0, 0), 3.0);
        g.plant(2, 0, 17);
        CHECK.dueDouble("a hedge that blocks", g.prospect(0, 0), 2.0);
        g.plant(0, 2, 17);
        CHECK.dueDouble("both hidden", g.prospect(0, 0), 0.0);
        g.plant(2, 0, 16);
        g.lay(0, 0, 3);
        CHECK.dueDouble("from a seat", g.prospect(0, 0), 0.0);
        g.plant(2, 0, 12);
        CHECK.dueDouble("from a seat over a lower hedge", g.prospect(0, 0), 1.0);
    }

    /** "add (double) (worth * height) / d" */
    private static void theProductIsDividedAsADouble() {
        ViewGarden g = new ViewGarden();
        g.addFeature(7, 0, 39, 3);
        CHECK.due("another double if divided first", 3 * (39.0 / 49) == 117.0 / 49 ? 0 : 1, 1);
        CHECK.due("and the other way round", 39 * (3.0 / 49) == 117.0 / 49 ? 0 : 1, 1);
        CHECK.dueDouble("117 / 49", g.prospect(0, 0), 117.0 / 49);
        g.reset(8, 8);
        g.addFeature(7, 0, 41, 7);
        CHECK.dueDouble("287 / 50", g.prospect(0, 1), 5.74);
        CHECK.dueDouble("287 / 4", g.prospect(5, 0), 71.75);
    }

    /** "d is the square of the distance of both centres (as an integer, in cells)" */
    private static void theSquareOfTheDistance() {
        for (int y = 0; y < 12; y++) {
            for (int x = 0; x < 16; x++) {
                if (x != 5 || y != 7) {
                    ViewGarden g = new ViewGarden();
                    g.reset(16, 12);
                    g.addFeature(5, 7, 59, 7);
                    int d = (x - 5) * (x - 5) + (y - 7) * (y - 7);
                    CHECK.dueDouble("prospect(" + x + ", " + y + ")", g.prospect(x, y), 413.0 / d);
                }
            }
        }
        ViewGarden g = new ViewGarden();
        g.reset(16, 12);
        g.addFeature(15, 11, 60, 9);
        CHECK.dueDouble("the greatest distance", g.prospect(0, 0), 540.0 / 346);
    }

    /** "in ascending order of the numbers" */
    private static void inAscendingOrderOfTheNumbers() {
        int[][] features = {{10, 8, 8, 7}, {3, 4, 15, 2}, {11, 8, 50, 8}, {2, 3, 43, 8}};
        int[][] orders = {{0, 1, 2, 3}, {3, 2, 1, 0}};
        double[] sums = new double[2];
        for (int i = 0; i < 2; i++) {
            ViewGarden g = new ViewGarden();
            g.reset(16, 12);
            for (int f : orders[i]) {
                int[] of = features[f];
                g.addFeature(of[0], of[1], of[2], of[3]);
                sums[i] += (double) (of[2] * of[3]) / (of[0] * of[0] + of[1] * of[1]);
            }
            CHECK.dueDouble("the sum in order " + i, g.prospect(0, 0), sums[i]);
        }
        CHECK.due("the orders differ", sums[0] == sums[1] ? 0 : 1, 1);
    }

    private static void theLeastAndTheGreatestProspect() {
        ViewGarden g = new ViewGarden();
        g.reset(16, 12);
        g.addFeature(15, 11, 1, 1);
        CHECK.dueDouble("the least above 0", g.prospect(0, 0), 1.0 / 346);
        g.reset(3, 12);
        for (int i = 0; i < 9; i++) {
            if (i != 4) {
                g.addFeature(i % 3, i / 3, 60, 9);
            }
        }
        g.addFeature(1, 3, 60, 9);
        g.addFeature(0, 3, 60, 9);
        // Four neighbours by a side, four by a corner, one two rows away and one by 1 and 2.
        CHECK.dueDouble("ten towers", g.prospect(1, 1), 540.0 * 4 + 270.0 * 4 + 135.0 + 108.0);
    }

    /** "-1.0 if there is no such cell, or it cannot be a place" */
    private static void minusOneIfNoCellOrNoPlace() {
        ViewGarden g = new ViewGarden();
        g.addFeature(4, 4, 0, 1);
        g.plant(3, 3, 1);
        int[][] cells = {{-1, 0}, {0, -1}, {8, 0}, {0, 8}, {8, 8}, {16, -1}, {-16, 1}, {0, 1 << 28},
            {LEAST, 0}, {0, LEAST}, {GREATEST, 0}, {0, GREATEST}, {4, 4}, {3, 3}};
        for (int[] cell : cells) {
            CHECK.dueDouble("prospect(" + cell[0] + ", " + cell[1] + ")", g.prospect(cell[0], cell[1]), -1.0);
        }
        for (int kind : PLACE_KINDS) {
            g.lay(3, 3, kind);
            CHECK.dueDouble("a place, " + kind, g.prospect(3, 3), 0.0);
        }
        CHECK.dueDouble("the last cell", g.prospect(7, 7), 0.0);
    }

    // ---- bestPlace

    /** "the first one of several by row, then by column" */
    private static void theFirstByRowThenByColumn() {
        ViewGarden g = new ViewGarden();
        g.reset(16, 12);
        g.addFeature(8, 6, 20, 5);
        int[] order = {16 * 5 + 8, 16 * 6 + 7, 16 * 6 + 9, 16 * 7 + 8, 16 * 5 + 7, 16 * 5 + 9, 16 * 7 + 7, 16 * 7 + 9};
        for (int cell : order) {
            CHECK.due("the best that is left", g.bestPlace(0), cell);
            g.lay(cell % 16, cell / 16, 1);
        }
        // The same order among the paths that they have become.
        for (int cell : order) {
            CHECK.due("the best path that is left", g.bestPlace(1), cell);
            g.lay(cell % 16, cell / 16, 3);
        }
        CHECK.due("the best seat", g.bestPlace(3), order[0]);
    }

    private static void theFirstOfSeveralThatSeeNothing() {
        ViewGarden g = new ViewGarden();
        CHECK.due("no feature", g.bestPlace(0), 0);
        g.addFeature(7, 7, 0, 9);
        CHECK.due("a pond", g.bestPlace(0), 0);
        g.lay(7, 2, 1);
        g.lay(0, 3, 1);
        CHECK.due("paths, by row", g.bestPlace(1), 16 * 2 + 7);
        g.lay(6, 2, 1);
        CHECK.due("paths, then by column", g.bestPlace(1), 16 * 2 + 6);
    }

    /** "Finds the cell of a kind that has the greatest prospect" */
    private static void theGreatestOfAKind() {
        ViewGarden g = new ViewGarden();
        g.addFeature(0, 0, 60, 9);
        g.lay(7, 7, 1);
        g.lay(7, 0, 3);
        g.lay(3, 3, 3);
        CHECK.due("the lawn beside it", g.bestPlace(0), 1);
        CHECK.due("the only path", g.bestPlace(1), 16 * 7 + 7);
        CHECK.due("the nearer seat", g.bestPlace(3), 16 * 3 + 3);
        g.plant(1, 1, 40);
        CHECK.due("the farther seat, which sees it", g.bestPlace(3), 7);
        g.plant(1, 0, 40);
        CHECK.due("a hedge is no lawn", g.bestPlace(0), 16);
        g.lay(6, 7, 1);
        CHECK.due("the nearer path", g.bestPlace(1), 16 * 7 + 6);
    }

    private static void theLastCellCanBeTheBest() {
        int[][] sizes = {{3, 3}, {16, 12}, {16, 3}, {3, 12}};
        for (int[] size : sizes) {
            ViewGarden g = new ViewGarden();
            g.reset(size[0], size[1]);
            int x = size[0] - 1;
            int y = size[1] - 1;
            g.lay(0, 0, 3);
            g.lay(x, y, 3);
            g.addFeature(x - 1, y, 30, 5);
            CHECK.due("the last of " + size[0] + " by " + size[1], g.bestPlace(3), 16 * y + x);
        }
    }

    /** "NONE if there is no cell of this kind" */
    private static void noneIfThereIsNoCellOfTheKind() {
        ViewGarden g = new ViewGarden();
        g.reset(3, 3);
        CHECK.due("no path", g.bestPlace(1), -7);
        CHECK.due("no seat", g.bestPlace(3), -7);
        for (int kind : PLACE_KINDS) {
            for (int cell = 0; cell < 9; cell++) {
                g.lay(cell % 3, cell / 3, kind);
            }
            for (int asked : PLACE_KINDS) {
                CHECK.due("bestPlace(" + asked + ") among " + kind, g.bestPlace(asked), asked == kind ? 0 : -7);
            }
        }
        for (int cell = 0; cell < 9; cell++) {
            g.addFeature(cell % 3, cell / 3, 60, 9);
        }
        for (int asked : PLACE_KINDS) {
            CHECK.due("bestPlace(" + asked + ") among features", g.bestPlace(asked), -7);
        }
    }

    /** "kind: 0, 1 or 3" */
    private static void onlyKinds0And1And3() {
        ViewGarden g = new ViewGarden();
        g.plant(0, 0, 9);
        g.addFeature(1, 0, 9, 9);
        g.lay(2, 0, 1);
        g.lay(3, 0, 3);
        int[] due = {-4, 17, 2, -4, 3, -4, -4};
        for (int kind = -1; kind <= 5; kind++) {
            CHECK.due("bestPlace(" + kind + ")", g.bestPlace(kind), due[kind + 1]);
        }
        CHECK.due("bestPlace(least)", g.bestPlace(LEAST), -4);
        CHECK.due("bestPlace(greatest)", g.bestPlace(GREATEST), -4);
        g.reset(3, 3);
        CHECK.due("bestPlace(2) without a hedge", g.bestPlace(2), -4);
    }

    // ---- meanProspect

    /** "-1.0f if the walk is empty" */
    private static void minusOneIfTheWalkIsEmpty() {
        ViewGarden g = new ViewGarden();
        CHECK.dueFloat("new", g.meanProspect(), -1.0f);
        g.addFeature(3, 0, 60, 9);
        CHECK.dueFloat("with a feature", g.meanProspect(), -1.0f);
        g.walkTo(2, 0);
        CHECK.dueFloat("one place", g.meanProspect(), 540.0f);
        g.walkBack(1);
        CHECK.dueFloat("no place any more", g.meanProspect(), -1.0f);
        g.walkTo(2, 0);
        g.reset(8, 8);
        CHECK.dueFloat("after a reset", g.meanProspect(), -1.0f);
        g.walkTo(2, 0);
        CHECK.dueFloat("without features", g.meanProspect(), 0.0f);
    }

    /** "(a cell that cannot be a place adds nothing)", but "the sum is divided by the number of places of the walk" */
    private static void aCellThatIsNoPlaceAddsNothing() {
        ViewGarden g = new ViewGarden();
        g.addFeature(4, 0, 16, 1);
        g.walkTo(0, 0);
        g.walkTo(0, 1);
        g.walkTo(0, 0);
        g.walkTo(0, 1);
        CHECK.dueFloat("four places", g.meanProspect(), (float) ((1.0 + 16.0 / 17 + 1.0 + 16.0 / 17) / 4));
        g.plant(0, 1, 1);
        CHECK.dueFloat("two of them hedges", g.meanProspect(), 0.5f);
        g.lay(0, 1, 0);
        g.addFeature(0, 0, 0, 9);
        CHECK.dueFloat("two of them a pond", g.meanProspect(), (float) ((16.0 / 17 + 16.0 / 17) / 4));
        g.plant(0, 1, 1);
        CHECK.dueFloat("no place at all", g.meanProspect(), 0.0f);
    }

    private static void theMeanOf40Places() {
        ViewGarden g = new ViewGarden();
        g.addFeature(0, 4, 32, 1);
        for (int i = 0; i < 40; i++) {
            g.walkTo(0, i % 2);
            double sum = (i / 2 + 1) * 2.0 + (i + 1) / 2 * (32.0 / 9);
            CHECK.due("near the mean of " + (i + 1), Math.abs(g.meanProspect() - sum / (i + 1)) < 1e-6 ? 1 : 0, 1);
        }
        g.lay(0, 1, 3);
        g.plant(0, 2, 40);
        CHECK.dueFloat("all hidden", g.meanProspect(), 0.0f);
        g.lay(0, 2, 0);
        g.plant(0, 1, 1);
        CHECK.dueFloat("20 of 40", g.meanProspect(), 1.0f);
    }

    /** "rounded to a float": only the result is cast. */
    private static void theSumIsADouble() {
        int otherSums = 0;
        int otherQuotients = 0;
        for (int top = 1; top <= 60; top++) {
            ViewGarden g = new ViewGarden();
            g.reset(16, 12);
            g.addFeature(7, 11, top, 7);
            double sum = 0.0;
            float floatSum = 0.0f;
            for (int x = 0; x < 13; x++) {
                g.walkTo(x, 0);
                sum += g.prospect(x, 0);
                floatSum += (float) g.prospect(x, 0);
            }
            CHECK.dueFloat("the mean for " + top, g.meanProspect(), (float) (sum / 13));
            otherSums += floatSum / 13 != (float) (sum / 13) ? 1 : 0;
            otherQuotients += (float) sum / 13 != (float) (sum / 13) ? 1 : 0;
        }
        CHECK.due("a sum of floats would differ", otherSums > 0 ? 1 : 0, 1);
        CHECK.due("a quotient of floats would differ", otherQuotients > 0 ? 1 : 0, 1);
    }

    /** "the prospects of the places of the walk are added in their order": a walk found by search, whose sum backwards is another float. */
    private static void thePlacesAreAddedInTheirOrder() {
        int[][] walk = {{5, 0}, {5, 1}, {5, 0}, {5, 1}, {4, 1}, {5, 1}, {4, 1}, {3, 1}, {3, 0}, {2, 0}, {2, 1}};
        float[] means = new float[2];
        for (int way = 0; way < 2; way++) {
            ViewGarden g = new ViewGarden();
            g.reset(16, 12);
            g.addFeature(15, 6, 34, 4);
            double sum = 0.0;
            for (int i = 0; i < walk.length; i++) {
                int[] place = walk[way == 0 ? i : walk.length - 1 - i];
                g.walkTo(place[0], place[1]);
                int across = 15 - place[0];
                int down = 6 - place[1];
                sum += 136.0 / (across * across + down * down);
            }
            means[way] = (float) (sum / walk.length);
            CHECK.dueFloat("the mean, way " + way, g.meanProspect(), means[way]);
        }
        CHECK.due("the ways differ", means[0] == means[1] ? 0 : 1, 1);
    }
}
