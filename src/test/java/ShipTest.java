/** Promise 9: ship; and what stands on a page. */
public final class ShipTest {
    private static final int CONTENT = 60;

    public static void main(String[] args) {
        Due due = new Due("ShipTest");
        refused(due);
        pages(due);
        boxes(due);
        full(due);
        due.end();
    }

    private static void refused(Due due) {
        PageFile x = new PageFile();
        for (int k : new int[] {-1, 8, Integer.MIN_VALUE, Integer.MAX_VALUE, 0}) {
            due.same("ship(" + k + ")", Due.ship(x, k), Due.ILLEGAL);
        }
        due.same("the file is empty", x.count(0), 0);
        Due.spaces(x, 3, 1);
        x.finish();
        due.same("behind the end", Due.ship(x, 3), Due.ILLEGAL);
        due.same("the box is there still", x.count(3), 1);
        due.same("the file is as before", x.count(0), 56);
    }

    private static void pages(Due due) {
        PageFile x = new PageFile();
        Due.spaces(x, 0, 1);
        due.same("an empty page", Due.ship(x, 0), 61);
        due.same("the register is void", Due.ship(x, 0), Due.ILLEGAL);
        Due.spaces(x, 7, 2);
        due.same("a page with space", Due.ship(x, 7), 109);
        due.bytes("the second page", x, 61, 139, 0, 0, 0, 2, 0, 0, 0, 0, 0, 0, 0, 0, 0, 0, 0, 0, 0, 0, 0, 0, 0, 0, 0, 0,
                0, 0, 0, 0, 0, 0, 0, 0, 0, 0, 0, 0, 0, 0, 0, 0, 0, 0, 0, 15, 141, 142, 140, -1);
        Due.spaces(x, 7, 1);
        Due.ship(x, 7);
        due.bytes("the third page", x, 109, 139, 0, 0, 0, 3);
        due.bytes("the place of the second", x, 150, 0, 0, 0, 61, 140, -1);
        due.same("pages", x.count(1), 3);
        due.same("items", x.count(3), 0);
    }

    private static void boxes(Due due) {
        PageFile x = new PageFile();
        x.open(true);
        x.close(1);
        x.open(false);
        x.character(0, 65, 10, 5, 1);
        x.close(0);
        x.open(true);
        x.put(0, 3, true);
        x.put(1, 2, true);
        x.put(0, -3, true);
        x.close(2);
        due.sizes("the column", x, 2, 13, 11, 1);
        x.open(false);
        x.space(7);
        x.put(2, 4, false);
        x.put(1, 77, false);
        x.put(0, 0, false);
        x.close(0);
        due.sizes("the page", x, 0, 30, 7, 77);
        x.ship(0);
        due.bytes("a column in a row, empty boxes left out", x, CONTENT, 162, 7, 141,
                148, 7, 167, 4, 141,
                153, 3, 162, 250, 141, 243, 0, 0, 0, 0, 0, 0, 0, 0, 0, 0, 0, 0, 0, 0, 1, 65, 171, 65, 142,
                148, 250, 167, 6, 141, 65, 142,
                142, 153, 13, 162, 252, 141, 65, 142, 142, 140, -1);
    }

    private static void full(Due due) {
        PageFile x = new PageFile();
        fillFile(x, 199999);
        due.same("the file", x.count(0), 199999);
        Due.spaces(x, 0, 1);
        due.same("not full yet", Due.ship(x, 0), 199999 + 46);
        PageFile y = new PageFile();
        fillFile(y, 200000);
        due.same("the file", y.count(0), 200000);
        Due.spaces(y, 0, 2);
        int items = y.count(3);
        int pages = y.count(1);
        due.same("full", Due.ship(y, 0), Due.UNSUPPORTED);
        due.same("nothing is changed: bytes", y.count(0), 200000);
        due.same("nothing is changed: items", y.count(3), items);
        due.same("nothing is changed: pages", y.count(1), pages);
        due.same("full again", Due.ship(y, 0), Due.UNSUPPORTED);
        due.same("full, and a void register", Due.ship(y, 3), Due.ILLEGAL);
        due.same("full, and no register", Due.ship(y, 8), Due.ILLEGAL);
        due.same("the end can be written", Due.finish(y), 200000 + 29 + 17 + 6 + 4);
        due.same("full, and its end is written", Due.ship(y, 0), Due.ILLEGAL);
    }

    /** Ships rules until so many bytes are nearly there, then characters of a byte each for the rest. */
    private static void fillFile(PageFile x, int target) {
        x.open(false);
        x.character(0, 1, 0, 0, 0);
        x.close(0);
        x.ship(0);
        x.open(false);
        for (int i = 0; i < 60; i++) {
            x.rule(1, 1, 0, 0);
        }
        x.close(7);
        for (int i = 0; i < 4; i++) {
            x.open(false);
            x.put(7, 0, true);
            x.put(7, 0, false);
            x.close(7);
        }
        while (x.count(0) < target - 9000) {
            x.open(false);
            x.put(7, 0, true);
            x.close(0);
            x.ship(0);
        }
        while (x.count(0) < target - 300) {
            x.open(false);
            for (int i = 0; i < 15; i++) {
                x.rule(1, 1, 0, 0);
            }
            x.close(0);
            x.ship(0);
        }
        int rest = target - x.count(0) - 49;
        x.open(false);
        for (int i = 0; i < rest; i++) {
            x.character(0, 1, 0, 0, 0);
        }
        x.close(0);
        x.ship(0);
    }
}
