/** Promise 9: the moves that are kept and used again. */
public final class MovesTest {
    private static final int CONTENT = 60;
    private static final int NO_HEIGHT = CONTENT + 1;

    public static void main(String[] args) {
        Due due = new Due("MovesTest");
        fewestBytes(due);
        longerAgo(due);
        downLikewise(due);
        savedAndBack(due);
        downSavedAndBack(due);
        eachPage(due);
        afterAFault(due);
        onlyAhead(due);
        due.end();
    }

    /** A page of one row: for each number a space and a character that takes it back. */
    private static PageFile spaced(int... spaces) {
        PageFile x = new PageFile();
        x.open(false);
        for (int width : spaces) {
            x.space(width);
            x.character(0, 1, -width, 0, 0);
        }
        x.close(0);
        x.ship(0);
        return x;
    }

    private static void fewestBytes(Due due) {
        move(due, 1, 148, 1);
        move(due, 127, 148, 127);
        move(due, -128, 148, 128);
        move(due, 128, 149, 0, 128);
        move(due, -129, 149, 255, 127);
        move(due, 32767, 149, 127, 255);
        move(due, -32768, 149, 128, 0);
        move(due, 32768, 150, 0, 128, 0);
        move(due, -32769, 150, 255, 127, 255);
        move(due, 8388607, 150, 127, 255, 255);
        move(due, -8388608, 150, 128, 0, 0);
        move(due, 8388608, 151, 0, 128, 0, 0);
        move(due, -8388609, 151, 255, 127, 255, 255);
        move(due, Due.LARGEST, 151, 63, 255, 255, 255);
        move(due, -Due.LARGEST, 151, 192, 0, 0, 1);
    }

    private static void move(Due due, int by, int... want) {
        PageFile x = spaced(by);
        due.bytes("a move by " + by, x, NO_HEIGHT, want);
        due.bytes("ahead of the font's sizes", x, NO_HEIGHT + want.length, 243);
    }

    private static void longerAgo(Due due) {
        PageFile x = spaced(5, 6, 5, 7, 6, 5, 7, 7, 8);
        due.bytes("W and X", x, NO_HEIGHT, 148, 5, 243);
        due.bytes("whichever was set or used longer ago", x, NO_HEIGHT + 2 + 17, 171, 1,
                153, 6, 1, 147, 1, 153, 7, 1, 148, 6, 1, 153, 5, 1, 148, 7, 1, 147, 1, 153, 8, 1, 142, 140, -1);
    }

    private static void downLikewise(Due due) {
        PageFile x = new PageFile();
        x.open(true);
        int[] spaces = {5, 6, 5, 7, 6, 300, 300, 6};
        for (int width : spaces) {
            x.space(width - 1);
            x.rule(1, 1, 0, 0);
        }
        x.space(-635);
        x.close(0);
        due.same("height", x.size(0, 1), 0);
        x.ship(0);
        int[] moves = {162, 5, 167, 6, 161, 167, 7, 162, 6, 168, 1, 44, 166, 161};
        int[] lengths = {2, 2, 1, 2, 2, 3, 1, 1};
        int place = CONTENT + 1;
        int from = 0;
        for (int length : lengths) {
            for (int i = 0; i < length; i++) {
                due.same("down " + from, x.byteAt(place + i), moves[from + i]);
            }
            from += length;
            place += length;
            due.bytes("a rule", x, place, 137, 0, 0, 0, 1, 0, 0, 0, 1);
            place += 9;
        }
        due.bytes("the end of the page", x, place, 142, 140, -1);
    }

    private static void savedAndBack(Due due) {
        PageFile x = new PageFile();
        x.open(false);
        x.space(9);
        x.rule(1, 1, 0, 0);
        x.space(8);
        x.rule(1, 1, 0, 0);
        x.close(1);
        x.open(false);
        x.space(4);
        x.put(1, 0, true);
        x.put(1, 0, true);
        x.space(-15);
        x.put(1, 3, true);
        x.close(0);
        x.ship(0);
        int[] rules = {132, 0, 0, 0, 1, 0, 0, 0, 1};
        due.bytes("the first box", x, CONTENT, 162, 1, 141, 148, 4, 141, 153, 9);
        due.bytes("its rule", x, CONTENT + 8, rules);
        due.bytes("its second move", x, CONTENT + 17, 148, 8);
        due.bytes("the second box", x, CONTENT + 28, 142, 153, 19, 141, 148, 9);
        due.bytes("its second move", x, CONTENT + 43, 153, 8);
        due.bytes("the third box", x, CONTENT + 54, 142, 147, 167, 3, 141, 153, 9);
    }

    private static void downSavedAndBack(Due due) {
        PageFile x = new PageFile();
        x.open(false);
        x.space(0);
        x.close(2);
        x.open(false);
        x.put(2, 9, true);
        x.put(2, 17, true);
        x.put(2, 5, false);
        x.close(1);
        x.open(false);
        x.put(1, 4, true);
        x.put(1, 10, true);
        x.put(1, 14, true);
        x.put(1, 20, true);
        x.close(0);
        x.ship(0);
        due.bytes("Y and Z", x, CONTENT, 141,
                162, 4, 141, 167, 9, 141, 142, 162, 8, 141, 142, 167, 244, 141, 142, 142,
                167, 6, 141, 162, 9, 141, 142, 167, 8, 141, 142, 162, 244, 141, 142, 142,
                161, 141, 167, 9, 141, 142, 162, 8, 141, 142, 167, 244, 141, 142, 142,
                166, 141, 162, 9, 141);
    }

    /** What a page that could not be written has kept is not there on the next one. */
    private static void afterAFault(Due due) {
        PageFile x = new PageFile();
        x.open(false);
        x.space(4);
        x.rule(1, 1, 0, 0);
        x.space(5);
        x.rule(1, 1, 2, 0);
        x.space(Due.LARGEST);
        x.space(-Due.LARGEST);
        x.close(0);
        due.same("a page that can't be", Due.ship(x, 0), Due.UNSUPPORTED);
        x.open(false);
        x.space(5);
        x.rule(1, 1, 0, 0);
        x.space(4);
        x.rule(1, 0, 2, 0);
        x.close(0);
        x.ship(0);
        due.bytes("the next page", x, CONTENT, 162, 1, 141, 148, 5, 132, 0, 0, 0, 1, 0, 0, 0, 1, 153, 4, 167, 2, 132);
    }

    private static void eachPage(Due due) {
        PageFile x = new PageFile();
        for (int page = 0; page < 2; page++) {
            int before = page == 0 ? 15 : x.count(0);
            x.open(false);
            x.space(6);
            x.character(0, 1, 0, 5, 0);
            x.close(0);
            x.ship(0);
            due.bytes("page " + page + " begins anew", x, before + 45, 162, 5, 141, 148, 6);
        }
    }

    private static void onlyAhead(Due due) {
        PageFile x = new PageFile();
        x.open(false);
        x.space(6);
        x.rule(5, 0, 0, 0);
        x.space(-2);
        x.close(0);
        x.ship(0);
        due.bytes("no move ahead of 142", x, CONTENT, 141, 142, 140, -1);
    }
}
