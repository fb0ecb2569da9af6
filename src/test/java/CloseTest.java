/** Promise 7: close; and how a list becomes a box. */
public final class CloseTest {
    public static void main(String[] args) {
        Due due = new Due("CloseTest");
        refused(due);
        rows(due);
        columns(due);
        sums(due);
        nested(due);
        due.end();
    }

    private static void refused(Due due) {
        PageFile x = new PageFile();
        due.no("without a list", x.close(0));
        x.open(false);
        x.space(5);
        for (int k : new int[] {-1, 8, Integer.MIN_VALUE, Integer.MAX_VALUE}) {
            due.no("close(" + k + ")", x.close(k));
        }
        due.same("the list is open still", x.count(2), 1);
        due.yes("close(0)", x.close(0));
        due.same("items", x.count(3), 2);
        due.same("width", x.size(0, 0), 5);
        x.open(false);
        due.yes("close(0) in place of the other", x.close(0));
        due.same("items", x.count(3), 1);
        due.same("width", x.size(0, 0), 0);
        x.open(true);
        due.yes("close(7)", x.close(7));
        due.same("items", x.count(3), 2);
        due.same("lists open", x.count(2), 0);
    }

    private static void rows(Due due) {
        PageFile x = new PageFile();
        x.open(false);
        x.close(0);
        due.sizes("an empty row", x, 0, 0, 0, 0);
        x.open(false);
        x.character(0, 0, 10, -5, -6);
        x.rule(20, -7, -8, 0);
        x.close(0);
        due.sizes("none is more than 0", x, 0, 30, 0, 0);
        x.open(false);
        x.character(0, 0, -10, 12, 3);
        x.rule(1, 3, 11, 0);
        x.space(100);
        x.close(1);
        due.sizes("the greatest", x, 1, 91, 12, 11);
        x.open(false);
        x.put(1, 5, true);
        x.close(2);
        due.sizes("a box lower", x, 2, 91, 7, 16);
        x.open(false);
        x.put(1, -5, true);
        x.close(2);
        due.sizes("a box higher", x, 2, 91, 17, 6);
        x.open(false);
        x.put(1, 50, true);
        x.put(1, -60, true);
        x.put(1, 1, false);
        x.close(2);
        due.sizes("boxes", x, 2, 273, 72, 61);
        x.open(false);
        x.put(2, 100, false);
        x.close(2);
        due.sizes("a box wholly below", x, 2, 273, 0, 161);
    }

    private static void columns(Due due) {
        PageFile x = new PageFile();
        x.open(true);
        x.close(0);
        due.sizes("an empty column", x, 0, 0, 0, 0);
        x.open(true);
        x.rule(-5, 1, 2, 0);
        x.close(0);
        due.sizes("no width is more than 0", x, 0, 0, 1, 2);
        x.open(false);
        x.character(0, 0, 30, 7, 4);
        x.close(1);
        x.open(true);
        x.put(1, 8, true);
        x.rule(37, 1, 2, 0);
        x.put(1, -100, true);
        x.close(2);
        due.sizes("boxes and rules", x, 2, 38, 21, 4);
        x.open(true);
        x.put(1, 8, true);
        x.space(-50);
        x.close(2);
        due.sizes("space last", x, 2, 38, -39, 0);
        x.open(true);
        x.space(90);
        x.rule(1, 1, -3, 0);
        x.close(2);
        due.sizes("space is no width, depth below 0", x, 2, 1, 91, -3);
        x.open(true);
        x.put(1, -40, false);
        x.close(2);
        due.sizes("a box to the left", x, 2, 0, 7, 4);
    }

    private static void sums(Due due) {
        int most = Due.LARGEST;
        PageFile x = new PageFile();
        x.open(false);
        x.space(most);
        x.space(1);
        due.no("too wide", x.close(0));
        due.same("the list is open still", x.count(2), 1);
        x.space(-1);
        due.yes("just wide enough", x.close(0));
        due.same("width", x.size(0, 0), most);
        x.open(false);
        x.space(-most);
        x.space(-1);
        due.no("too narrow", x.close(0));
        x.space(most);
        x.space(most);
        x.space(most);
        x.space(1);
        due.no("too wide again", x.close(1));
        x.space(-most);
        due.yes("the sum alone matters", x.close(1));
        x.open(false);
        x.character(0, 0, 0, most, 0);
        x.close(2);
        x.open(false);
        x.put(2, -1, true);
        due.no("too high", x.close(3));
        x.open(false);
        x.character(0, 0, 0, 0, most);
        x.close(3);
        x.open(false);
        x.put(3, 1, true);
        due.no("too deep", x.close(3));
        x.open(true);
        x.put(0, 1, true);
        due.no("too wide in a column", x.close(3));
        x.open(true);
        x.space(most);
        x.rule(0, 1, 5, 0);
        due.no("too high in a column", x.close(3));
        x.space(-6);
        due.yes("high enough in a column", x.close(3));
        due.sizes("it", x, 3, 0, most, 0);
        x.open(true);
        x.rule(0, 0, most, 0);
        x.rule(0, most, -most, 0);
        due.no("less a depth below 0", x.close(3));
    }

    private static void nested(Due due) {
        PageFile x = new PageFile();
        x.open(true);
        due.yes("a box", x.close(0));
        for (int i = 2; i <= 100; i++) {
            x.open(i % 2 == 0);
            x.put(0, 0, false);
            due.yes(i + " boxes inside one another", x.close(0));
        }
        due.same("items", x.count(3), 100);
        x.open(false);
        x.put(0, 0, true);
        due.no("100 of them in it", x.close(1));
        due.same("the list is open still", x.count(2), 1);
        x.open(false);
        due.yes("another list becomes a box", x.close(1));
    }
}
