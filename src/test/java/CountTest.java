/** Promise 12: count. */
public final class CountTest {
    public static void main(String[] args) {
        Due due = new Due("CountTest");
        PageFile x = new PageFile();
        due.same("count(-1)", x.count(-1), PageFile.NONE);
        due.same("count(5)", x.count(5), PageFile.NONE);
        due.same("the least int", x.count(Integer.MIN_VALUE), PageFile.NONE);
        due.same("the largest int", x.count(Integer.MAX_VALUE), PageFile.NONE);
        x.open(false);
        x.space(1);
        x.character(0, 0, 0, 0, 0);
        x.rule(0, 0, 0, 0);
        counts(due, "a list", x, 0, 0, 1, 3, 0);
        x.close(0);
        counts(due, "a box", x, 0, 0, 0, 4, 0);
        x.open(true);
        x.put(0, 0, true);
        counts(due, "a copy", x, 0, 0, 1, 8, 0);
        x.open(false);
        x.put(0, 0, false);
        counts(due, "two lists", x, 0, 0, 2, 8, 0);
        x.close(0);
        counts(due, "a box in a box", x, 0, 0, 1, 9, 0);
        x.ship(0);
        counts(due, "a page", x, 86, 1, 1, 4, 0);
        x.close(0);
        x.ship(0);
        counts(due, "two pages", x, 140, 2, 0, 0, 0);
        x.finish();
        counts(due, "the end", x, 196, 2, 0, 0, 1);
        x.open(true);
        x.space(1);
        counts(due, "behind the end", x, 196, 2, 1, 1, 1);
        due.end();
    }

    private static void counts(Due due, String when, PageFile x, int... want) {
        for (int what = 0; what < want.length; what++) {
            due.same(when + ": count(" + what + ")", x.count(what), want[what]);
        }
    }
}
