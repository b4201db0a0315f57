/**
 * All that can be asked of a garden, as a text, to see that a refused call changes nothing. The
 * last questions take the walk back, so a garden is drawn only once, when nothing else follows.
 */
final class Picture {
    private final ViewGarden garden;
    private final StringBuilder text = new StringBuilder();

    private Picture(ViewGarden garden) {
        this.garden = garden;
    }

    static String of(ViewGarden garden) {
        Picture picture = new Picture(garden);
        picture.drawCells();
        picture.drawLists();
        picture.drawWalkBack();
        return picture.text.toString();
    }

    private void add(String name, Object answer) {
        text.append(name).append('=').append(answer).append(' ');
    }

    private void drawCells() {
        for (int y = 0; garden.kind(0, y) >= 0; y++) {
            for (int x = 0; garden.kind(x, y) >= 0; x++) {
                add("cell(" + x + "," + y + ")", garden.kind(x, y) + "/" + garden.height(x, y)
                        + "/" + garden.seen(x, y) + "/" + garden.wishHeight(x, y) + "/" + garden.prospect(x, y));
            }
        }
    }

    private void drawLists() {
        for (int what = 0; what < 4; what++) {
            add("count(" + what + ")", garden.count(what));
        }
        for (int feature = 0; feature < garden.count(0); feature++) {
            add("appears(" + feature + ")", garden.appears(feature));
            add("shown(" + feature + ")", garden.shown(feature));
        }
        for (int kind : new int[] {0, 1, 3}) {
            add("bestPlace(" + kind + ")", garden.bestPlace(kind));
        }
        add("wishCost()", garden.wishCost());
        add("spoiled()", garden.spoiled());
    }

    /** The means of all beginnings of the walk tell what stands at each of its places. */
    private void drawWalkBack() {
        int length = garden.count(2);
        for (int i = 0; i < length; i++) {
            add("surprises(" + (length - 1 - i) + ")", garden.surprises(length - 1 - i));
            add("meanProspect()", garden.meanProspect());
            garden.walkBack(1);
        }
    }
}
