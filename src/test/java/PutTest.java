/** Promise 8: put. */
public final class PutTest {
    public static void main(String[] args) {
        Due due = new Due("PutTest");
        refused(due);
        joins(due);
        copies(due);
        due.end();
    }

    private static void refused(Due due) {
        int most = Due.LARGEST;
        PageFile x = new PageFile();
        x.open(false);
        x.space(3);
        x.close(2);
        due.no("without a list", x.put(2, 0, true));
        x.open(true);
        for (int k : new int[] {-1, 8, Integer.MIN_VALUE, Integer.MAX_VALUE}) {
            due.no("put(" + k + ")", x.put(k, 0, true));
        }
        due.no("a void register", x.put(1, 0, false));
        due.no("shift above", x.put(2, most + 1, false));
        due.no("shift below", x.put(2, -most - 1, true));
        due.no("the least shift", x.put(2, Integer.MIN_VALUE, false));
        due.same("nothing is changed", x.size(2, 0), 3);
        due.same("items", x.count(3), 2);
        due.yes("the largest shift", x.put(2, most, true));
        due.yes("the least SIZE as a shift", x.put(2, -most, false));
    }

    private static void joins(Due due) {
        PageFile x = new PageFile();
        Due.spaces(x, 0, 3);
        x.open(false);
        due.yes("put a copy", x.put(0, 0, true));
        due.same("items", x.count(3), 6);
        due.yes("put it", x.put(0, 0, false));
        due.same("items", x.count(3), 6);
        due.no("it is void then", x.put(0, 0, false));
        due.no("no copy of a void one", x.put(0, 0, true));
        due.same("ship of a void one", Due.ship(x, 0), Due.ILLEGAL);
        x.close(0);
        due.same("items", x.count(3), 7);
    }

    private static void copies(Due due) {
        PageFile x = new PageFile();
        x.open(false);
        x.character(0, 65, 10, 20, 30);
        x.close(0);
        x.open(false);
        x.put(0, 4, true);
        x.put(0, -4, true);
        due.sizes("the register keeps the box", x, 0, 10, 20, 30);
        x.close(1);
        due.sizes("both copies", x, 1, 20, 24, 34);
        x.open(true);
        x.close(0);
        x.ship(1);
        due.bytes("each with its shift, whatever came into the register", x, 60, 162, 24, 141, 167, 4, 141);
        due.bytes("the second copy", x, 85, 142, 148, 10, 162, 248, 141, 65, 142, 142, 140, PageFile.NONE);
    }
}
