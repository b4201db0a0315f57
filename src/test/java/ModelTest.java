import java.util.Random;

/** Long runs of chosen calls, each answered by ViewGarden and by PlainGarden alike. */
public final class ModelTest {
    private static final Check CHECK = new Check("model");
    private static final int RUNS = 300;
    /** A new object is used for as many calls as the document promises. */
    private static final int CALLS = 512;
    private static final int[] ODD = {Integer.MIN_VALUE, -17, -16, -7, -2, -1, 3, 4, 8, 10, 12, 13, 16, 17, 40, 41, 60, 61, 192, Integer.MAX_VALUE};

    private final Random random;
    private final int run;
    private final ViewGarden garden = new ViewGarden();
    private final PlainGarden plain = new PlainGarden();
    private int columns = 8;
    private int rows = 8;
    private int lastX;
    private int lastY;

    private ModelTest(int run) {
        this.run = run;
        // A fixed seed for each run, so that every session has the same runs.
        this.random = new Random(7919L * run + 1);
    }

    public static void main(String[] args) {
        for (int run = 0; run < RUNS && !CHECK.anyWrong(); run++) {
            new ModelTest(run).go();
        }
        CHECK.end();
    }

    private void go() {
        if (run % 4 != 0) {
            reset(3 + random.nextInt(14), 3 + random.nextInt(10));
        }
        int opening = 20 + random.nextInt(100);
        for (int i = 1; i < CALLS && !CHECK.anyWrong(); i++) {
            if (i < opening || random.nextInt(4) == 0) {
                change();
            } else if (random.nextInt(3) == 0) {
                walkOrWish();
            } else {
                ask();
            }
        }
    }

    private int pick(int least, int greatest) {
        return random.nextInt(40) == 0 ? ODD[random.nextInt(ODD.length)] : least + random.nextInt(greatest - least + 1);
    }

    private int column() {
        return pick(0, columns - 1);
    }

    private int row() {
        return pick(0, rows - 1);
    }

    private int feature() {
        int there = plain.count(0);
        return pick(0, Math.max(0, there - 1));
    }

    private int placeKind() {
        int[] kinds = {0, 0, 1, 3};
        return random.nextInt(20) == 0 ? pick(-1, 5) : kinds[random.nextInt(4)];
    }

    private void same(String call, long got, long want) {
        CHECK.due("run " + run + ": " + call, got, want);
    }

    private static String of(String name, int... arguments) {
        StringBuilder s = new StringBuilder(name).append('(');
        for (int i = 0; i < arguments.length; i++) {
            s.append(i == 0 ? "" : ", ").append(arguments[i]);
        }
        return s.append(')').toString();
    }

    private void reset(int newColumns, int newRows) {
        int cells = garden.reset(newColumns, newRows);
        same(of("reset", newColumns, newRows), cells, plain.reset(newColumns, newRows));
        if (cells > 0) {
            columns = newColumns;
            rows = newRows;
        }
    }

    private void change() {
        int x = column();
        int y = row();
        int f = feature();
        int height = random.nextInt(3) == 0 ? pick(1, 40) : pick(8, 24);
        int top = random.nextInt(3) == 0 ? pick(0, 60) : pick(0, 24);
        int worth = pick(1, 9);
        int kind = placeKind();
        switch (random.nextInt(8)) {
            case 0, 1, 2, 3 -> same(of("plant", x, y, height), garden.plant(x, y, height), plain.plant(x, y, height));
            case 4, 5 -> same(of("lay", x, y, kind), garden.lay(x, y, kind), plain.lay(x, y, kind));
            case 6 -> same(of("addFeature", x, y, top, worth), garden.addFeature(x, y, top, worth), plain.addFeature(x, y, top, worth));
            default -> {
                if (random.nextInt(60) == 0) {
                    reset(pick(2, 17), pick(2, 13));
                } else {
                    same(of("clip", x, y, f), garden.clip(x, y, f), plain.clip(x, y, f));
                }
            }
        }
    }

    private void walkOrWish() {
        int x = column();
        int y = row();
        int f = feature();
        switch (random.nextInt(10)) {
            case 0 -> {
                int n = random.nextInt(6) == 0 ? pick(0, 40) : pick(0, 3);
                same(of("walkBack", n), garden.walkBack(n), plain.walkBack(n));
            }
            case 1, 2 -> same(of("wish", x, y, f), garden.wish(x, y, f), plain.wish(x, y, f));
            case 3 -> {
                if (random.nextInt(4) == 0) {
                    same("clearWishes()", garden.clearWishes(), plain.clearWishes());
                }
            }
            default -> stepOn(x, y);
        }
    }

    private void stepOn(int farX, int farY) {
        int x = lastX;
        int y = lastY;
        switch (random.nextInt(5)) {
            case 0 -> x++;
            case 1 -> x--;
            case 2 -> y++;
            case 3 -> y--;
            default -> {
                x = farX;
                y = farY;
            }
        }
        int length = garden.walkTo(x, y);
        same(of("walkTo", x, y), length, plain.walkTo(x, y));
        if (length > 0) {
            lastX = x;
            lastY = y;
        }
    }

    private void ask() {
        int x = column();
        int y = row();
        int f = feature();
        switch (random.nextInt(20)) {
            case 0 -> same(of("kind", x, y), garden.kind(x, y), plain.kind(x, y));
            case 1 -> same(of("height", x, y), garden.height(x, y), plain.height(x, y));
            case 2 -> {
                int what = pick(-1, 4);
                same(of("count", what), garden.count(what), plain.count(what));
            }
            case 3 -> same(of("sees", x, y, f), garden.sees(x, y, f), plain.sees(x, y, f));
            case 4, 5 -> same(of("seen", x, y), garden.seen(x, y), plain.seen(x, y));
            case 6 -> same(of("blockers", x, y, f), garden.blockers(x, y, f), plain.blockers(x, y, f));
            case 7, 8 -> same(of("clipCost", x, y, f), garden.clipCost(x, y, f), plain.clipCost(x, y, f));
            case 9 -> same(of("opening", x, y, f), garden.opening(x, y, f), plain.opening(x, y, f));
            case 10 -> same(of("appears", f), garden.appears(f), plain.appears(f));
            case 11 -> {
                int place = pick(0, 10);
                same(of("surprises", place), garden.surprises(place), plain.surprises(place));
            }
            case 12 -> {
                int k = pick(0, 10);
                same(of("shown", k), garden.shown(k), plain.shown(k));
            }
            case 13, 14 -> same("wishCost()", garden.wishCost(), plain.wishCost());
            case 15 -> same(of("wishHeight", x, y), garden.wishHeight(x, y), plain.wishHeight(x, y));
            case 16 -> same("spoiled()", garden.spoiled(), plain.spoiled());
            case 17 -> CHECK.dueDouble("run " + run + ": " + of("prospect", x, y), garden.prospect(x, y), plain.prospect(x, y));
            case 18 -> {
                int kind = placeKind();
                same(of("bestPlace", kind), garden.bestPlace(kind), plain.bestPlace(kind));
            }
            default -> CHECK.dueFloat("run " + run + ": meanProspect()", garden.meanProspect(), plain.meanProspect());
        }
    }
}
