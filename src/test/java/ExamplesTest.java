/** The three examples of the document. */
public final class ExamplesTest {
    private static final Check CHECK = new Check("examples");

    public static void main(String[] args) {
        hedgeThatHidesStatue();
        walkAndWish();
        smallGardenWithTwoWishes();
        CHECK.end();
    }

    private static void hedgeThatHidesStatue() {
        ViewGarden g = new ViewGarden();
        CHECK.due("1 addFeature(6, 1, 20, 5)", g.addFeature(6, 1, 20, 5), 0);
        CHECK.due("1 plant(3, 1, 18)", g.plant(3, 1, 18), 0);
        CHECK.due("1 sees(0, 1, 0)", g.sees(0, 1, 0), 0);
        CHECK.due("1 blockers(0, 1, 0)", g.blockers(0, 1, 0), 1);
        CHECK.due("1 clipCost(0, 1, 0)", g.clipCost(0, 1, 0), 1);
        CHECK.due("1 opening(0, 1, 0)", g.opening(0, 1, 0), 19);
        CHECK.due("1 lay(0, 1, 3)", g.lay(0, 1, 3), 0);
        CHECK.due("1 clipCost(0, 1, 0) seated", g.clipCost(0, 1, 0), 4);
        CHECK.due("1 clip(0, 1, 0)", g.clip(0, 1, 0), 4);
        CHECK.due("1 height(3, 1)", g.height(3, 1), 14);
        CHECK.due("1 sees(0, 1, 0) clipped", g.sees(0, 1, 0), 1);
        CHECK.dueDouble("1 prospect(0, 1)", g.prospect(0, 1), 2.7777777777777777);
        CHECK.due("1 seen(0, 1)", g.seen(0, 1), 1);
        CHECK.due("1 kind(3, 1)", g.kind(3, 1), 2);
        CHECK.due("1 sees(3, 1, 0)", g.sees(3, 1, 0), -3);
        CHECK.due("1 bestPlace(3)", g.bestPlace(3), 16);
    }

    private static void walkAndWish() {
        ViewGarden g = new ViewGarden();
        CHECK.due("2 addFeature(7, 7, 10, 2)", g.addFeature(7, 7, 10, 2), 0);
        CHECK.due("2 addFeature(0, 7, 40, 3)", g.addFeature(0, 7, 40, 3), 1);
        CHECK.due("2 plant(1, 3, 30)", g.plant(1, 3, 30), 0);
        CHECK.due("2 plant(0, 4, 40)", g.plant(0, 4, 40), 0);
        CHECK.due("2 walkTo(0, 0)", g.walkTo(0, 0), 1);
        CHECK.due("2 walkTo(1, 0)", g.walkTo(1, 0), 2);
        CHECK.due("2 walkTo(1, 1)", g.walkTo(1, 1), 3);
        CHECK.due("2 walkTo(3, 1)", g.walkTo(3, 1), -6);
        CHECK.due("2 appears(0)", g.appears(0), 0);
        CHECK.due("2 appears(1)", g.appears(1), -7);
        CHECK.due("2 surprises(0)", g.surprises(0), 1);
        CHECK.due("2 shown(0)", g.shown(0), 0);
        CHECK.due("2 shown(1)", g.shown(1), -7);
        CHECK.due("2 wish(0, 0, 1)", g.wish(0, 0, 1), 0);
        CHECK.due("2 wishCost()", g.wishCost(), 12);
        CHECK.due("2 spoiled()", g.spoiled(), 1);
    }

    private static void smallGardenWithTwoWishes() {
        ViewGarden g = new ViewGarden();
        CHECK.due("3 reset(3, 3)", g.reset(3, 3), 9);
        CHECK.due("3 addFeature(2, 2, 60, 9)", g.addFeature(2, 2, 60, 9), 0);
        CHECK.due("3 plant(1, 1, 40)", g.plant(1, 1, 40), 0);
        CHECK.due("3 plant(1, 0, 40)", g.plant(1, 0, 40), 0);
        CHECK.due("3 sees(0, 0, 0)", g.sees(0, 0, 0), 0);
        CHECK.due("3 sees(0, 1, 0)", g.sees(0, 1, 0), 0);
        CHECK.due("3 sees(2, 0, 0)", g.sees(2, 0, 0), 1);
        CHECK.due("3 wish(0, 0, 0)", g.wish(0, 0, 0), 0);
        CHECK.due("3 wish(0, 1, 0)", g.wish(0, 1, 0), 1);
        CHECK.due("3 wishHeight(1, 1)", g.wishHeight(1, 1), 27);
        CHECK.due("3 wishHeight(1, 2)", g.wishHeight(1, 2), -7);
        CHECK.dueFloat("3 meanProspect() without a walk", g.meanProspect(), -1.0f);
        CHECK.due("3 walkTo(0, 1)", g.walkTo(0, 1), 1);
        CHECK.dueFloat("3 meanProspect()", g.meanProspect(), 0.0f);
        CHECK.due("3 plant(2, 2, 5)", g.plant(2, 2, 5), -6);
        CHECK.due("3 lay(3, 0, 1)", g.lay(3, 0, 1), -1);
    }
}
