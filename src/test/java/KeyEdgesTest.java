/** Every sentence on keys and the joystick that names an edge, and the promises 28 to 30. */
public final class KeyEdgesTest {
    private static final Class<IndexOutOfBoundsException> INDEX = IndexOutOfBoundsException.class;
    private static final Class<IllegalArgumentException> ARGUMENT = IllegalArgumentException.class;

    private KeyEdgesTest() {
    }

    public static void main(String[] args) {
        sixteenKeys();
        rowsThatAreAskedFor();
        liveColumns();
        liveRows();
        longestChains();
        brokenChain();
        bitByBit();
        keyReturns();
        noSuchKey();
        columnsReturns();
        rowsOutOfRange();
        joystickReturns();
        joystickOutOfRange();
        Due.end("KeyEdgesTest");
    }

    private static Rasterbox pressed(int... keys) {
        Rasterbox box = new Rasterbox();
        for (int i = 0; i < keys.length; i += 2) {
            box.key(keys[i], keys[i + 1], true);
        }
        return box;
    }

    private static void sixteenKeys() {
        Due.by("There are 4 rows of 4 keys.");
        for (int row = 0; row < 4; row++) {
            for (int column = 0; column < 4; column++) {
                Rasterbox box = pressed(row, column);
                for (int rows = 0; rows < 16; rows++) {
                    int due = (rows >> row & 1) == 1 ? 1 << column : 0;
                    Due.is("key " + row + " " + column + " by the rows " + rows, box.columns(rows), due);
                }
            }
        }
    }

    private static void rowsThatAreAskedFor() {
        Due.by("A row that is asked for is live");
        Rasterbox box = pressed(0, 0, 1, 1, 2, 2, 3, 3);
        for (int rows = 0; rows < 16; rows++) {
            Due.is("one key in each, rows " + rows, box.columns(rows), rows);
        }
        Due.is("no key", new Rasterbox().columns(15), 0);
        Due.is("no row", pressed(0, 0, 0, 1, 0, 2, 0, 3).columns(0), 0);
        Due.is("a row without a key", pressed(0, 0, 0, 1, 0, 2, 0, 3).columns(14), 0);
    }

    private static void liveColumns() {
        Due.by("a column with a pressed key in a live row is live");
        Due.is("all of a row", pressed(2, 0, 2, 1, 2, 2, 2, 3).columns(4), 15);
        Due.is("two of a row", pressed(2, 0, 2, 3).columns(4), 9);
        Due.is("the same column by two rows", pressed(0, 1, 3, 1).columns(9), 2);
        Due.is("a key in a row that is not live", pressed(0, 1, 3, 2).columns(1), 2);
    }

    private static void liveRows() {
        Due.by("and so is a row with a pressed key in a live column");
        Due.is("three corners show the fourth", pressed(0, 0, 0, 1, 1, 0).columns(2), 3);
        Due.is("and from the other row", pressed(0, 0, 0, 1, 1, 0).columns(1), 3);
        Due.is("the corner is not shown by two", pressed(0, 1, 1, 0).columns(2), 1);
        Due.is("a row above", pressed(3, 2, 0, 2, 0, 0).columns(8), 5);
        Due.is("a row below", pressed(0, 2, 3, 2, 3, 1).columns(1), 6);
    }

    private static void longestChains() {
        Due.by("a column with a pressed key in a live row is live, and so is a row with a pressed key in a live column");
        int[][] orders = {{0, 1, 2, 3}, {3, 2, 1, 0}, {1, 3, 0, 2}, {2, 0, 3, 1}, {0, 3, 1, 2}, {3, 0, 2, 1}};
        for (int[] rows : orders) {
            for (int[] columns : orders) {
                Rasterbox box = new Rasterbox();
                for (int i = 0; i < 4; i++) {
                    box.key(rows[i], columns[i], true);
                    if (i > 0) {
                        box.key(rows[i], columns[i - 1], true);
                    }
                }
                for (int row = 0; row < 4; row++) {
                    Due.is("all of a chain by the row " + row, box.columns(1 << row), 15);
                }
            }
        }
    }

    private static void brokenChain() {
        Due.by("a column with a pressed key in a live row is live, and so is a row with a pressed key in a live column");
        Rasterbox box = pressed(0, 0, 1, 0, 1, 1, 2, 1, 2, 2, 3, 2, 3, 3);
        box.key(2, 1, false);
        Due.is("the upper part", box.columns(1), 3);
        Due.is("the lower part", box.columns(8), 12);
        Due.is("both", box.columns(9), 15);
    }

    private static void bitByBit() {
        Due.by("The columns that are live are seen, bit by bit.");
        for (int column = 0; column < 4; column++) {
            Due.is("column " + column, pressed(1, column).columns(2), 1 << column);
        }
    }

    private static void keyReturns() {
        Due.by("Returns true if it was pressed.");
        Rasterbox box = new Rasterbox();
        Due.is("let go at first", box.key(3, 3, false), false);
        Due.is("pressed", box.key(3, 3, true), false);
        Due.is("pressed again", box.key(3, 3, true), true);
        Due.is("seen once", box.columns(8), 8);
        Due.is("another one", box.key(3, 2, true), false);
        Due.is("and another one", box.key(2, 3, false), false);
        Due.is("let go", box.key(3, 3, false), true);
        Due.is("let go again", box.key(3, 3, false), false);
        Due.is("the other one stays", box.columns(8), 4);
        Due.is("the first", box.key(0, 0, true), false);
        Due.is("the first again", box.key(0, 0, false), true);
    }

    private static void noSuchKey() {
        Due.by("Throws `IndexOutOfBoundsException` if there is no such key");
        Rasterbox box = pressed(3, 3);
        for (int none : new int[] {-1, 4, Integer.MIN_VALUE, Integer.MAX_VALUE}) {
            Due.fails("row " + none, INDEX, () -> box.key(none, 0, true));
            Due.fails("column " + none, INDEX, () -> box.key(0, none, true));
            Due.fails("row, let go " + none, INDEX, () -> box.key(none, 3, false));
        }
        Due.is("nothing has changed", box.columns(15), 8);
    }

    private static void columnsReturns() {
        Due.by("Returns which columns would be seen if rows were asked for.");
        Rasterbox box = pressed(1, 2);
        box.poke(Boxes.KEYS, 1);
        Due.is("the row 1", box.columns(2), 4);
        Due.is("the rows that are asked for stay", box.peek(Boxes.KEYS), 0);
        box.joystick(15);
        Due.is("without the joystick", box.columns(15), 4);
    }

    private static void rowsOutOfRange() {
        Due.by("`rows`: the rows, 0 to 15");
        Rasterbox box = pressed(3, 3);
        Due.is("0", box.columns(0), 0);
        Due.is("15", box.columns(15), 8);
        for (int wrong : new int[] {-1, 16, Integer.MIN_VALUE, Integer.MAX_VALUE}) {
            Due.fails("rows " + wrong, ARGUMENT, () -> box.columns(wrong));
        }
    }

    private static void joystickReturns() {
        Due.by("Returns the bits before.");
        Rasterbox box = new Rasterbox();
        Due.is("at first", box.joystick(15), 0);
        Due.is("15", box.joystick(0), 15);
        Due.is("0", box.joystick(8), 0);
        Due.is("8", box.joystick(8), 8);
    }

    private static void joystickOutOfRange() {
        Due.by("`bits`: its bits, 0 to 15");
        Rasterbox box = new Rasterbox();
        box.joystick(9);
        for (int wrong : new int[] {-1, 16, Integer.MIN_VALUE, Integer.MAX_VALUE}) {
            Due.fails("bits " + wrong, ARGUMENT, () -> box.joystick(wrong));
        }
        Due.is("it stays", box.peek(Boxes.KEYS), 144);
    }
}
