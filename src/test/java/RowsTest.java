/** Promises 1 to 5, and 37 as far as rows go. */
public final class RowsTest {
    public static void main(String[] args) {
        Due.test("Rows: newObject", RowsTest::newObject);
        Due.test("Rows: rows", RowsTest::rows);
        Due.test("Rows: sets", RowsTest::sets);
        Due.test("Rows: copies", RowsTest::copies);
        Due.test("Rows: drops", RowsTest::drops);
        Due.test("Rows: statuses", RowsTest::statuses);
        Due.end();
    }

    private static void newObject() {
        NineDown x = new NineDown();
        for (int what = 0; what <= 7; what++) {
            Due.due("count of a new one " + what, x.count(what), 0);
        }
        Due.due("status of a new one", x.status(), 0);
        Due.due("fault of a new one", x.fault(), 0);
        Due.due("stand of a new one", x.stand(0), Due.STATE);
        Due.due("undo of a new one", x.undo(), Due.STATE);
        Due.due("trace of a new one", x.trace(0), Due.NONE);
        for (int row = 0; row < 8; row++) {
            Due.due("drop of a new one", x.drop(row), Due.NULL);
        }
    }

    private static void rows() {
        NineDown x = new NineDown();
        Due.due("row(0,0,0)", x.row(0, 0, 0), 0);
        Due.due("row(7,2,40)", x.row(7, 2, 40), 40);
        Due.due("count(0)", x.count(0), 2);
        Due.due("row(8,..)", x.row(8, 0, 1), Due.BAD);
        Due.due("row(-1,..)", x.row(-1, 0, 1), Due.BAD);
        Due.due("lane 3", x.row(1, 3, 1), Due.BAD);
        Due.due("lane -1", x.row(1, -1, 1), Due.BAD);
        Due.due("n 41", x.row(1, 0, 41), Due.BAD);
        Due.due("n -1", x.row(1, 0, -1), Due.SIZE);
        Due.due("BAD ahead of SIZE", x.row(1, 3, -1), Due.BAD);
        Due.due("BAD ahead of SIZE", x.row(8, 0, Integer.MIN_VALUE), Due.BAD);
        Due.due("count(0)", x.count(0), 2);
        beginsWithNone(x);
        Due.due("n -1 leaves a row", x.row(7, 0, -1), Due.SIZE);
        Due.due("n -1 leaves a row", x.drop(7), 40);
    }

    /** Where 1 at a place tells the one bike, first() answers otherwise than where 0 does. */
    private static void beginsWithNone(NineDown x) {
        Due.tell(x, "y1,0,0;k1,1;");
        for (int i = 0; i < 40; i++) {
            Due.due("0 at first", x.first(7, i), 0);
            Due.due("set", x.set(7, i, 1), 1);
            Due.due("1", x.first(7, i), 257);
        }
        Due.due("row in place", x.row(7, 1, 40), 40);
        for (int i = 0; i < 40; i++) {
            Due.due("0 anew", x.first(7, i), 0);
        }
    }

    private static void sets() {
        NineDown x = new NineDown();
        x.row(0, 0, 2);
        x.row(1, 1, 2);
        x.row(2, 2, 2);
        Due.due("byte 127", x.set(0, 0, 127), 127);
        Due.due("byte 128", x.set(0, 0, 128), -128);
        Due.due("byte 256", x.set(0, 1, 256), 0);
        Due.due("byte -129", x.set(0, 1, -129), 127);
        Due.due("short 32768", x.set(1, 0, 32768), -32768);
        Due.due("short 65535", x.set(1, 1, 65535), -1);
        Due.due("int least", x.set(2, 0, Integer.MIN_VALUE), Integer.MIN_VALUE);
        Due.due("int most", x.set(2, 1, Integer.MAX_VALUE), Integer.MAX_VALUE);
        Due.due("no place 2", x.set(0, 2, 1), Due.PLACE);
        Due.due("no place -1", x.set(0, -1, 1), Due.PLACE);
        Due.due("no place most", x.set(0, Integer.MAX_VALUE, 1), Due.PLACE);
        Due.due("missing", x.set(3, 0, 1), Due.NULL);
        Due.due("no row", x.set(8, 0, 1), Due.BAD);
        Due.due("no row", x.set(-1, 0, 1), Due.BAD);
        x.row(4, 0, 0);
        Due.due("no place in none", x.set(4, 0, 1), Due.PLACE);
    }

    /** What an ITEM is can be seen by a plan: a lift that can be, or not. */
    private static boolean isItem(NineDown x, int row, int i, int lift) {
        return (x.plan(row, i, 1, 0) == 1) == (lift == 1);
    }

    private static void copies() {
        NineDown x = Due.told("y1,0,0;k1,1;k1,1;t9;");
        Due.fill(x, 0, 0, 0, 99, 0, 99, 99);
        Due.due("copy onto itself, to the right", x.copy(0, 0, 0, 1, 4), 4);
        int[] right = {1, 1, 0, 1, 0};
        for (int i = 0; i < 5; i++) {
            Due.due("item " + i, isItem(x, 0, i, right[i]) ? 1 : 0, 1);
        }
        Due.due("copy onto itself, to the left", x.copy(0, 2, 0, 0, 3), 3);
        int[] left = {0, 1, 0, 1, 0};
        for (int i = 0; i < 5; i++) {
            Due.due("item " + i, isItem(x, 0, i, left[i]) ? 1 : 0, 1);
        }
        x.row(1, 0, 3);
        x.row(2, 1, 3);
        Due.due("copy of none at both ends", x.copy(0, 5, 1, 3, 0), 0);
        Due.due("copy", x.copy(0, 2, 1, 0, 3), 3);
        Due.due("two lanes", x.copy(0, 0, 2, 0, 1), Due.STORE);
        Due.due("STORE ahead of PLACE", x.copy(0, -1, 2, 0, 1), Due.STORE);
        Due.due("missing a", x.copy(3, 0, 0, 0, 1), Due.NULL);
        Due.due("missing b", x.copy(0, 0, 3, 0, 1), Due.NULL);
        Due.due("no row a", x.copy(8, 0, 0, 0, 1), Due.BAD);
        Due.due("no row b", x.copy(3, 0, -1, 0, 1), Due.BAD);
        Due.due("i below 0", x.copy(0, -1, 1, 0, 1), Due.PLACE);
        Due.due("j below 0", x.copy(0, 0, 1, -1, 1), Due.PLACE);
        Due.due("n below 0", x.copy(0, 0, 1, 0, -1), Due.PLACE);
        Due.due("beyond a", x.copy(0, 3, 1, 0, 3), Due.PLACE);
        Due.due("beyond b", x.copy(0, 0, 1, 1, 3), Due.PLACE);
        Due.due("beyond a, none", x.copy(0, 6, 1, 0, 0), Due.PLACE);
        Due.due("a sum that wraps", x.copy(0, Integer.MAX_VALUE, 1, 0, Integer.MAX_VALUE), Due.PLACE);
        Due.due("a sum that wraps", x.copy(0, 1, 1, 1, Integer.MAX_VALUE), Due.PLACE);
    }

    private static void drops() {
        NineDown x = new NineDown();
        x.row(5, 1, 17);
        Due.due("drop", x.drop(5), 17);
        Due.due("count(0)", x.count(0), 0);
        Due.due("drop again", x.drop(5), Due.NULL);
        Due.due("drop 8", x.drop(8), Due.BAD);
        Due.due("drop -1", x.drop(-1), Due.BAD);
    }

    private static void statuses() {
        NineDown x = Due.told(Due.FIVE);
        Due.due("NULL", x.drop(0), Due.NULL);
        Due.due("status 1", x.status(), 1);
        Due.due("BAD leaves it", x.drop(9), Due.BAD);
        Due.due("status 1", x.status(), 1);
        Due.due("another call leaves it", x.feed(65), 1);
        Due.due("status 1", x.status(), 1);
        Due.due("clean", x.row(0, 0, 5), 5);
        Due.due("status 0", x.status(), 0);
        Due.due("PLACE", x.set(0, 5, 0), Due.PLACE);
        Due.due("status 2", x.status(), 2);
        Due.due("KIND", x.as(0, 4), Due.KIND);
        Due.due("status 3", x.status(), 3);
        Due.due("BAD leaves it", x.as(0, 6), Due.BAD);
        Due.due("status 3", x.status(), 3);
        Due.due("SIZE", x.row(0, 0, -1), Due.SIZE);
        Due.due("status 4", x.status(), 4);
        x.row(1, 1, 1);
        Due.due("status 0", x.status(), 0);
        Due.due("STORE", x.copy(0, 0, 1, 0, 1), Due.STORE);
        Due.due("status 5", x.status(), 5);
        Due.due("as", x.as(0, 1), 0);
        Due.due("status 0", x.status(), 0);
        Due.due("first", x.first(0, 1), Due.PLACE);
        Due.due("status 2", x.status(), 2);
        Due.due("plan", x.plan(0, 0, 0, 0), 0);
        Due.due("status 0", x.status(), 0);
        Due.due("who", x.who(0, 2, 0, 1), Due.NULL);
        Due.due("status 1", x.status(), 1);
        x.set(0, 0, 9);
        Due.due("status 0", x.status(), 0);
        x.drop(3);
        Due.due("who, no BIKE", x.who(0, 0, 0, 1), Due.BAD);
        Due.due("status 1", x.status(), 1);
        Due.due("set, set, copy", x.copy(0, 0, 0, 1, 2), 2);
        Due.due("status 0", x.status(), 0);
    }
}
