/** Promise 2: font; and how fonts stand in the file. */
public final class FontTest {
    private static final int CONTENT = 60;

    public static void main(String[] args) {
        Due due = new Due("FontTest");
        refused(due);
        inTheFile(due);
        chosen(due);
        afterAFault(due);
        allAtTheEnd(due);
        due.end();
    }

    private static void refused(Due due) {
        PageFile x = new PageFile();
        due.yes("font(0, 0, 0)", x.font(0, 0, 0));
        due.yes("font(31, 1, 1)", x.font(31, 1, 1));
        due.yes("sizes above a SIZE", x.font(1, Integer.MAX_VALUE, Integer.MAX_VALUE));
        due.no("font(-1, 1, 1)", x.font(-1, 1, 1));
        due.no("font(32, 1, 1)", x.font(32, 1, 1));
        due.no("font at the least int", x.font(Integer.MIN_VALUE, 1, 1));
        due.no("font at the largest int", x.font(Integer.MAX_VALUE, 1, 1));
        due.no("size below 0", x.font(31, -1, 7));
        due.no("design below 0", x.font(31, 7, -1));
        due.no("the least size", x.font(31, Integer.MIN_VALUE, 7));
        page(x, 31, 31);
        due.bytes("a refused call changes nothing", x, CONTENT, 141, 243, 31, 0, 0, 0, 0, 0, 0, 0, 1, 0, 0, 0, 1, 0, 1,
                65 + 5, 171 + 31, 9, 9, 142, 140);
    }

    private static void inTheFile(Due due) {
        PageFile x = new PageFile();
        x.font(2, 0x01020304, 0x7f6f5f4f);
        x.font(26, 5, 6);
        page(x, 2, 26);
        due.bytes("both fonts, at their first use", x, CONTENT, 141, 243, 2, 0, 0, 0, 0, 1, 2, 3, 4, 0x7f, 0x6f, 0x5f,
                0x4f, 0, 1, 67, 173, 9, 243, 26, 0, 0, 0, 0, 0, 0, 0, 5, 0, 0, 0, 6, 0, 1, 65, 197, 9, 142, 140);
        int second = x.count(0);
        x.font(2, 8, 9);
        page(x, 2, 26);
        due.bytes("no sizes on the next page", x, second + 45, 141, 173, 9, 197, 9, 142, 140);
        int end = x.count(0);
        Due.finish(x);
        due.bytes("falling numbers, sizes as they are then", x, end + 29, 243, 26, 0, 0, 0, 0, 0, 0, 0, 5, 0, 0, 0, 6,
                0, 1, 65, 243, 2, 0, 0, 0, 0, 0, 0, 0, 8, 0, 0, 0, 9, 0, 1, 67, 249);
        due.yes("font after the end", x.font(2, 1, 1));
    }

    private static void chosen(Due due) {
        PageFile x = new PageFile();
        x.open(false);
        x.character(1, 9, 0, 0, 0);
        x.close(0);
        x.open(false);
        x.character(0, 7, 0, 0, 0);
        x.put(0, 0, true);
        x.character(1, 8, 0, 0, 0);
        x.put(0, 0, false);
        x.character(0, 7, 0, 0, 0);
        x.close(0);
        x.ship(0);
        due.bytes("the font is not given back at 142", x, CONTENT, 141, 243, 0, 0, 0, 0, 0, 0, 0, 0, 0, 0, 0, 0, 0, 0,
                1, 65, 171, 7, 141, 243, 1, 0, 0, 0, 0, 0, 0, 0, 0, 0, 0, 0, 0, 0, 1, 66, 172, 9, 142, 8, 141, 9, 142,
                171, 7, 142, 140);
    }

    private static void afterAFault(Due due) {
        PageFile x = new PageFile();
        x.open(false);
        x.character(4, 1, 0, 0, 0);
        x.space(Due.LARGEST);
        x.space(1);
        x.space(-1);
        x.close(0);
        due.same("ship of a page that can't be", Due.ship(x, 0), Due.UNSUPPORTED);
        int length = Due.finish(x);
        due.same("its font was not used", length, 56);
        PageFile y = new PageFile();
        y.open(false);
        y.character(4, 1, 0, 0, 0);
        y.space(Due.LARGEST);
        y.space(1);
        y.space(-1);
        y.close(0);
        Due.ship(y, 0);
        page(y, 4, 4);
        due.bytes("its font is first used now", y, CONTENT, 141, 243, 4);
    }

    private static void allAtTheEnd(Due due) {
        PageFile x = new PageFile();
        x.open(false);
        for (int k = 0; k < 32; k++) {
            x.character(k, 0, 0, 0, 0);
        }
        x.close(0);
        x.ship(0);
        int end = x.count(0) + 29;
        x.finish();
        for (int k = 0; k < 32; k++) {
            due.bytes("font " + k + " at the end", x, end + 17 * (31 - k), 243, k);
        }
        due.bytes("behind them", x, end + 17 * 32, 249);
    }

    private static void page(PageFile x, int first, int second) {
        x.open(false);
        x.character(first, 9, 0, 0, 0);
        x.character(second, 9, 0, 0, 0);
        x.close(0);
        x.ship(0);
    }
}
