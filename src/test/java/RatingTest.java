/** Promises 25 to 27: the prospects. */
public final class RatingTest {
    private static final Check CHECK = new Check("rating");
    private static final int LEAST = Integer.MIN_VALUE;
    private static final int GREATEST = Integer.MAX_VALUE;

    public static void main(String[] args) {
        promise25Prospect();
        promise25OrderOfAddition();
        promise25Errors();
        promise26BestPlace();
        promise26Ties();
        promise26Errors();
        promise27MeanProspect();
        promise27Rounding();
        CHECK.end();
    }

    private static void promise25Prospect() {
        ViewGarden g = new ViewGarden();
        CHECK.dueDouble("without features", g.prospect(0, 0), 0.0);
        g.addFeature(3, 4, 20, 5);
        CHECK.dueDouble("one feature", g.prospect(0, 0), 100.0 / 25);
        CHECK.dueDouble("a neighbour", g.prospect(3, 3), 100.0);
        CHECK.dueDouble("a neighbour by a corner", g.prospect(4, 5), 50.0);
        g.addFeature(7, 0, 60, 9);
        CHECK.dueDouble("two features", g.prospect(0, 0), 4.0 + 540.0 / 49);
        g.addFeature(0, 7, 0, 9);
        CHECK.dueDouble("a pond adds nothing", g.prospect(0, 0), 4.0 + 540.0 / 49);
        g.plant(2, 3, 40);
        CHECK.dueDouble("a hidden one", g.prospect(0, 0), 540.0 / 49);
        g.plant(1, 0, 40);
        CHECK.dueDouble("all hidden", g.prospect(0, 0), 0.0);
        g.lay(0, 0, 3);
        g.plant(2, 3, 11);
        CHECK.dueDouble("from a seat", g.prospect(0, 0), 4.0);
        tenFeaturesAndOneAfterThem();
    }

    private static void tenFeaturesAndOneAfterThem() {
        ViewGarden g = new ViewGarden();
        g.reset(16, 12);
        double sum = 0.0;
        for (int i = 0; i < 10; i++) {
            g.addFeature(i + 1, i, 3 * i, 9 - i / 2);
            sum += (double) (3 * i * (9 - i / 2)) / ((i + 1) * (i + 1) + i * i);
        }
        CHECK.dueDouble("ten features", g.prospect(0, 0), sum);
        g.reset(16, 12);
        g.addFeature(2, 0, 8, 1);
        CHECK.dueDouble("one after a reset", g.prospect(0, 0), 2.0);
    }

    /** The sum is taken by ascending numbers: in another order it would be another double. */
    private static void promise25OrderOfAddition() {
        ViewGarden g = new ViewGarden();
        g.reset(16, 12);
        int[][] features = {{10, 8, 8, 7}, {3, 4, 15, 2}, {11, 8, 50, 8}, {2, 3, 43, 8}};
        double sum = 0.0;
        double reverse = 0.0;
        for (int i = 0; i < features.length; i++) {
            int[] f = features[i];
            int[] b = features[features.length - 1 - i];
            g.addFeature(f[0], f[1], f[2], f[3]);
            sum += (double) (f[2] * f[3]) / (f[0] * f[0] + f[1] * f[1]);
            reverse += (double) (b[2] * b[3]) / (b[0] * b[0] + b[1] * b[1]);
        }
        CHECK.due("the orders differ", sum == reverse ? 0 : 1, 1);
        CHECK.dueDouble("prospect by ascending numbers", g.prospect(0, 0), sum);
    }

    private static void promise25Errors() {
        ViewGarden g = new ViewGarden();
        g.addFeature(3, 4, 20, 5);
        g.plant(1, 1, 1);
        int[][] nowhere = {{-1, 0}, {0, -1}, {8, 0}, {0, 8}, {LEAST, 0}, {0, LEAST}, {GREATEST, GREATEST}};
        for (int[] cell : nowhere) {
            CHECK.dueDouble("prospect outside", g.prospect(cell[0], cell[1]), -1.0);
        }
        CHECK.dueDouble("prospect of a hedge", g.prospect(1, 1), -1.0);
        CHECK.dueDouble("prospect of a feature", g.prospect(3, 4), -1.0);
    }

    private static void promise26BestPlace() {
        ViewGarden g = new ViewGarden();
        g.reset(16, 12);
        g.addFeature(15, 11, 60, 9);
        g.addFeature(12, 11, 20, 9);
        CHECK.due("the best lawn", g.bestPlace(0), 16 * 11 + 14);
        g.plant(14, 11, 2);
        CHECK.due("a hedge is not a lawn", g.bestPlace(0), 16 * 10 + 15);
        CHECK.due("no path", g.bestPlace(1), -7);
        CHECK.due("no seat", g.bestPlace(3), -7);
        g.lay(0, 0, 1);
        g.lay(2, 2, 1);
        g.lay(1, 3, 1);
        g.lay(3, 1, 3);
        CHECK.due("the best path", g.bestPlace(1), 16 * 2 + 2);
        CHECK.due("the only seat", g.bestPlace(3), 16 * 1 + 3);
        g.lay(15, 10, 3);
        CHECK.due("the better seat", g.bestPlace(3), 16 * 10 + 15);
        g.plant(3, 2, 40);
        CHECK.due("a path with views hidden", g.bestPlace(1), 16 * 3 + 1);
    }

    private static void promise26Ties() {
        ViewGarden g = new ViewGarden();
        CHECK.due("all have 0.0", g.bestPlace(0), 0);
        g.plant(0, 0, 3);
        CHECK.due("the first that is a lawn", g.bestPlace(0), 1);
        g.lay(5, 2, 1);
        g.lay(2, 5, 1);
        CHECK.due("by row first", g.bestPlace(1), 16 * 2 + 5);
        g.lay(6, 2, 1);
        CHECK.due("then by column", g.bestPlace(1), 16 * 2 + 5);
        g.addFeature(4, 4, 30, 3);
        CHECK.due("four neighbours", g.bestPlace(0), 16 * 3 + 4);
        g.reset(3, 3);
        for (int i = 0; i < 9; i++) {
            g.lay(i % 3, i / 3, 3);
        }
        CHECK.due("no lawn in the garden", g.bestPlace(0), -7);
        CHECK.due("all are seats", g.bestPlace(3), 0);
        for (int i = 0; i < 9; i++) {
            g.plant(i % 3, i / 3, 1);
        }
        CHECK.due("nor seat", g.bestPlace(3), -7);
        g.lay(2, 2, 0);
        CHECK.due("one lawn", g.bestPlace(0), 16 * 2 + 2);
    }

    private static void promise26Errors() {
        ViewGarden g = new ViewGarden();
        g.plant(1, 1, 4);
        g.addFeature(2, 2, 4, 4);
        for (int kind : new int[] {-1, 2, 4, 5, LEAST, GREATEST}) {
            CHECK.due("bestPlace(" + kind + ")", g.bestPlace(kind), -4);
        }
    }

    private static void promise27MeanProspect() {
        ViewGarden g = new ViewGarden();
        CHECK.dueFloat("no walk", g.meanProspect(), -1.0f);
        g.walkTo(0, 0);
        CHECK.dueFloat("no feature", g.meanProspect(), 0.0f);
        g.addFeature(3, 0, 18, 1);
        CHECK.dueFloat("one place", g.meanProspect(), 2.0f);
        g.walkTo(1, 0);
        CHECK.dueFloat("two places", g.meanProspect(), 3.25f);
        g.walkTo(0, 0);
        CHECK.dueFloat("a place counts each time", g.meanProspect(), (float) (8.5 / 3));
        g.plant(1, 0, 1);
        CHECK.dueFloat("a hedge adds nothing, but is counted", g.meanProspect(), (float) (4.0 / 3));
        g.walkBack(3);
        CHECK.dueFloat("no walk any more", g.meanProspect(), -1.0f);
    }

    private static void promise27Rounding() {
        ViewGarden g = new ViewGarden();
        g.reset(16, 12);
        g.addFeature(7, 5, 59, 7);
        g.addFeature(2, 9, 13, 3);
        double sum = 0.0;
        for (int i = 0; i < 12; i++) {
            g.walkTo(i, 0);
            sum += g.prospect(i, 0);
        }
        CHECK.due("the sum is no float", (double) (float) (sum / 12) == sum / 12 ? 0 : 1, 1);
        CHECK.dueFloat("rounded once", g.meanProspect(), (float) (sum / 12));
    }
}
