/**
 * Every line of sight from the corners of the greatest garden, with hedges in all other cells:
 * ViewGarden clips each of them as PlainGarden does.
 */
public final class SightTest {
    private static final Check CHECK = new Check("sight");
    private static final int COLUMNS = 16;
    private static final int ROWS = 12;
    private static final int[] TOPS = {0, 1, 11, 13, 16, 19, 60};

    public static void main(String[] args) {
        int[][] corners = {{0, 0}, {COLUMNS - 1, 0}, {0, ROWS - 1}, {COLUMNS - 1, ROWS - 1}};
        for (int[] corner : corners) {
            for (int cell = 0; cell < COLUMNS * ROWS && !CHECK.anyWrong(); cell++) {
                int x = cell % COLUMNS;
                int y = cell / COLUMNS;
                if (x != corner[0] || y != corner[1]) {
                    for (int i = 0; i < TOPS.length; i++) {
                        compare(corner[0], corner[1], x, y, TOPS[i], (cell + i) % 2 == 0 ? 0 : 3);
                    }
                }
            }
        }
        CHECK.end();
    }

    private static void compare(int fromX, int fromY, int toX, int toY, int top, int kind) {
        ViewGarden garden = new ViewGarden();
        PlainGarden plain = new PlainGarden();
        garden.reset(COLUMNS, ROWS);
        plain.reset(COLUMNS, ROWS);
        for (int cell = 0; cell < COLUMNS * ROWS; cell++) {
            garden.plant(cell % COLUMNS, cell / COLUMNS, 40);
            plain.plant(cell % COLUMNS, cell / COLUMNS, 40);
        }
        garden.lay(fromX, fromY, kind);
        plain.lay(fromX, fromY, kind);
        garden.addFeature(toX, toY, top, 1);
        plain.addFeature(toX, toY, top, 1);
        String view = "from " + fromX + ", " + fromY + " of kind " + kind + " to " + toX + ", " + toY + ", " + top + " high: ";
        CHECK.due(view + "blockers", garden.blockers(fromX, fromY, 0), plain.blockers(fromX, fromY, 0));
        CHECK.due(view + "clip", garden.clip(fromX, fromY, 0), plain.clip(fromX, fromY, 0));
        for (int cell = 0; cell < COLUMNS * ROWS; cell++) {
            int x = cell % COLUMNS;
            int y = cell / COLUMNS;
            CHECK.due(view + "height(" + x + ", " + y + ")", garden.height(x, y), plain.height(x, y));
        }
        CHECK.due(view + "sees", garden.sees(fromX, fromY, 0), 1);
        CHECK.due(view + "hedges", garden.count(1), plain.count(1));
    }
}
