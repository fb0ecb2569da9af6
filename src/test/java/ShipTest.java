/** Promise 9: ship; and what stands on a page. */
public final class ShipTest {
    private static final int CONTENT = 60;

    public static void main(String[] args) {
        Due due = new Due("ShipTest");
        refused(due);
        pages(due);
        boxes(due);
        due.end();
    }

    private static void refused(Due due) {
        PageFile x = new PageFile();
        for (int k : new int[] {-1, 8, Integer.MIN_VALUE, Integer.MAX_VALUE, 0}) {
            due.same("ship(" + k + ")", Due.ship(x, k), Due.ILLEGAL);
        }
        due.same("the file is empty", x.count(0), 0);
        Due.spaces(x, 3, 1);
        x.finish();
        due.same("behind the end", Due.ship(x, 3), Due.ILLEGAL);
        due.same("the box is there still", x.count(3), 1);
        due.same("the file is as before", x.count(0), 56);
    }

    private static void pages(Due due) {
        PageFile x = new PageFile();
        Due.spaces(x, 0, 1);
        due.same("an empty page", Due.ship(x, 0), 61);
        due.same("the register is void", Due.ship(x, 0), Due.ILLEGAL);
        Due.spaces(x, 7, 2);
        due.same("a page with space", Due.ship(x, 7), 109);
        due.bytes("the second page", x, 61, 139, 0, 0, 0, 2, 0, 0, 0, 0, 0, 0, 0, 0, 0, 0, 0, 0, 0, 0, 0, 0, 0, 0, 0, 0,
                0, 0, 0, 0, 0, 0, 0, 0, 0, 0, 0, 0, 0, 0, 0, 0, 0, 0, 0, 15, 141, 142, 140, -1);
        Due.spaces(x, 7, 1);
        Due.ship(x, 7);
        due.bytes("the third page", x, 109, 139, 0, 0, 0, 3);
        due.bytes("the place of the second", x, 150, 0, 0, 0, 61, 140, -1);
        due.same("pages", x.count(1), 3);
        due.same("items", x.count(3), 0);
    }

    private static void boxes(Due due) {
        PageFile x = new PageFile();
        x.open(true);
        x.close(1);
        x.open(false);
        x.character(0, 65, 10, 5, 1);
        x.close(0);
        x.open(true);
        x.put(0, 3, true);
        x.put(1, 2, true);
        x.put(0, -3, true);
        x.close(2);
        due.sizes("the column", x, 2, 13, 11, 1);
        x.open(false);
        x.space(7);
        x.put(2, 4, false);
        x.put(1, 77, false);
        x.put(0, 0, false);
        x.close(0);
        due.sizes("the page", x, 0, 30, 7, 77);
        x.ship(0);
        due.bytes("a column in a row, empty boxes left out", x, CONTENT, 162, 7, 141,
                148, 7, 167, 4, 141,
                153, 3, 162, 250, 141, 243, 0, 0, 0, 0, 0, 0, 0, 0, 0, 0, 0, 0, 0, 0, 1, 65, 171, 65, 142,
                148, 250, 167, 6, 141, 65, 142,
                142, 153, 13, 162, 252, 141, 65, 142, 142, 140, -1);
    }
}
