/** Promise 10: finish; and the end of the file. */
public final class FinishTest {
    public static void main(String[] args) {
        Due due = new Due("FinishTest");
        empty(due);
        greatest(due);
        noneIsMore(due);
        lengths(due);
        deepest(due);
        deepestAfterAFault(due);
        largest(due);
        due.end();
    }

    private static void empty(Due due) {
        PageFile x = new PageFile();
        x.open(false);
        due.same("finish", Due.finish(x), 56);
        due.same("finish again", Due.finish(x), Due.ILLEGAL);
        due.same("bytes", x.count(0), 56);
        due.same("ended", x.count(4), 1);
        due.same("the list is open still", x.count(2), 1);
        due.bytes("all of it", x, 0, 247, 2, 1, 131, 146, 192, 28, 59, 0, 0, 0, 0, 3, 232, 0, 248, 255, 255, 255, 255,
                1, 131, 146, 192, 28, 59, 0, 0, 0, 0, 3, 232, 0, 0, 0, 0, 0, 0, 0, 0, 0, 0, 0, 0, 249, 0, 0, 0, 15, 2,
                223, 223, 223, 223, 223, 223, -1);
    }

    private static void greatest(Due due) {
        PageFile x = new PageFile();
        page(x, 10, 300, 45);
        page(x, 70000, 2, 3);
        page(x, 60, 340, 4);
        due.same("bytes", Due.finish(x), 190 + 29 + 17 + 6 + 6);
        due.bytes("the end", x, 190, 248, 0, 0, 0, 137, 1, 131, 146, 192, 28, 59, 0, 0, 0, 0, 3, 232, 0, 0, 1, 89, 0, 1,
                17, 112, 0, 1, 0, 3, 243, 0, 0, 0, 0, 0, 0, 0, 0, 0, 0, 0, 0, 0, 0, 1, 65, 249, 0, 0, 0, 190, 2, 223,
                223, 223, 223, 223, 223, -1);
    }

    private static void page(PageFile x, int width, int height, int depth) {
        x.open(false);
        x.character(0, 1, width, height, depth);
        x.close(0);
        x.ship(0);
    }

    private static void noneIsMore(Due due) {
        PageFile x = new PageFile();
        x.open(true);
        x.rule(-5, -6, -7, 0);
        x.close(0);
        x.ship(0);
        page(x, -100, 0, 0);
        int end = x.count(0);
        x.finish();
        due.bytes("0 if none is more", x, end + 17, 0, 0, 0, 0, 0, 0, 0, 0, 0, 1, 0, 2);
    }

    private static void lengths(Due due) {
        int[] seen = new int[8];
        for (int more = 0; more < 8; more++) {
            PageFile x = new PageFile();
            x.open(false);
            for (int i = 0; i <= more; i++) {
                x.character(0, 1, 0, 0, 0);
            }
            x.close(0);
            int behind = x.ship(0) + 29 + 17 + 6;
            int length = Due.finish(x);
            due.same("a multiple of 4", length % 4, 0);
            due.same("four to seven", (length - behind) / 4, 1);
            for (int k = behind; k < length; k++) {
                due.same("223", x.byteAt(k), 223);
            }
            due.same("ahead of them", x.byteAt(behind - 1), 2);
            seen[length - behind]++;
        }
        for (int fillings = 4; fillings < 8; fillings++) {
            due.same(fillings + " of them", seen[fillings], 2);
        }
    }

    private static void deepest(Due due) {
        PageFile x = new PageFile();
        x.open(false);
        x.close(0);
        for (int i = 0; i < 99; i++) {
            x.open(i % 2 == 0);
            x.put(0, 1, false);
            x.close(0);
        }
        x.ship(0);
        Due.spaces(x, 0, 2);
        x.ship(0);
        int end = x.count(0);
        x.finish();
        due.bytes("99, as the innermost box is empty", x, end + 25, 0, 99, 0, 2);
        PageFile y = new PageFile();
        Due.spaces(y, 0, 2);
        for (int i = 0; i < 99; i++) {
            y.open(i % 2 == 0);
            y.put(0, 0, false);
            y.close(0);
        }
        y.ship(0);
        end = y.count(0);
        due.same("all of them, one in another", end, 15 + 46 + 200);
        y.finish();
        due.bytes("100", y, end + 25, 0, 100, 0, 1);
        PageFile z = new PageFile();
        Due.spaces(z, 0, 1);
        z.ship(0);
        end = z.count(0);
        z.finish();
        due.bytes("0 with an empty page", z, end + 25, 0, 0, 0, 1);
    }

    private static void deepestAfterAFault(Due due) {
        PageFile x = new PageFile();
        Due.spaces(x, 0, 2);
        x.open(false);
        x.put(0, 0, false);
        x.space(Due.LARGEST);
        x.space(1);
        x.space(-1);
        x.close(0);
        due.same("a page that can't be", Due.ship(x, 0), Due.UNSUPPORTED);
        Due.spaces(x, 0, 2);
        x.ship(0);
        int end = x.count(0);
        x.finish();
        due.bytes("a page that could not be does not count", x, end + 25, 0, 1, 0, 1);
    }

    private static void largest(Due due) {
        PageFile x = new PageFile();
        page(x, Due.LARGEST, Due.LARGEST, Due.LARGEST);
        int end = x.count(0);
        x.finish();
        due.bytes("the largest height and depth together", x, end + 17, 127, 255, 255, 254, 63, 255, 255, 255);
    }
}
