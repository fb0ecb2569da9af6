/** Promise 9: pages on which a place, a move or a rule's height and depth together is no SIZE. */
public final class ShipFaultTest {
    private static final int MOST = Due.LARGEST;

    private final Due due = new Due("ShipFaultTest");

    public static void main(String[] args) {
        ShipFaultTest test = new ShipFaultTest();
        test.behindAnItem();
        test.behindAnItemInAColumn();
        test.baseLine();
        test.leftEnd();
        test.top();
        test.lowerEnd();
        test.extent();
        test.moves();
        test.fileIsAsBefore();
        test.due.end();
    }

    /** Closes the list that is open and ships it. */
    private void shipped(String what, PageFile x, int want) {
        due.yes(what + ": close", x.close(0));
        int before = x.count(0);
        int got = Due.ship(x, 0);
        due.same(what + ": ship", got == Due.UNSUPPORTED ? 0 : 1, want);
        due.same(what + ": the register is void", x.count(3), 0);
        due.same(what + ": pages", x.count(1), want);
        if (want == 0) {
            due.same(what + ": the file is as before", x.count(0), before);
        }
    }

    private static PageFile row(int... spaces) {
        PageFile x = new PageFile();
        x.open(false);
        for (int width : spaces) {
            x.space(width);
        }
        return x;
    }

    private static PageFile column(int... spaces) {
        PageFile x = new PageFile();
        x.open(true);
        for (int width : spaces) {
            x.space(width);
        }
        return x;
    }

    private void behindAnItem() {
        shipped("the right edge", row(MOST, -1, 1), 1);
        shipped("beyond the right edge", row(MOST, 1, -1), 0);
        shipped("the left edge", row(-MOST, 1, -1), 1);
        shipped("beyond the left edge", row(-MOST, -1, 1), 0);
        PageFile x = row(MOST);
        x.character(0, 1, 1, 0, 0);
        x.space(-1);
        shipped("behind a character", x, 0);
        x = row(MOST);
        x.rule(1, 0, 0, 0);
        x.space(-1);
        shipped("behind a rule", x, 0);
        x = row(1);
        x.close(1);
        x.open(false);
        x.space(MOST);
        x.put(1, 0, false);
        x.space(-1);
        shipped("behind a box", x, 0);
    }

    private void behindAnItemInAColumn() {
        shipped("the lower edge", column(MOST, -1, 1), 1);
        shipped("beyond the lower edge", column(MOST, 1, -1), 0);
        shipped("the upper edge", column(-MOST, 1, -1), 1);
        shipped("beyond the upper edge", column(-MOST, -1, 1), 0);
        PageFile x = column(MOST);
        x.rule(0, 0, 1, 0);
        x.space(-1);
        shipped("behind a rule", x, 0);
        x = column();
        x.rule(0, 0, 1, 0);
        x.close(1);
        x.open(true);
        x.space(MOST);
        x.put(1, 0, false);
        x.space(-1);
        shipped("behind a box", x, 0);
    }

    private void baseLine() {
        for (int height = 0; height <= 1; height++) {
            PageFile x = new PageFile();
            x.open(true);
            x.close(1);
            x.open(false);
            x.character(0, 1, 0, height, 0);
            x.put(1, MOST, false);
            shipped("base line of an empty box at " + height, x, 1 - height);
            x = new PageFile();
            x.open(false);
            x.space(0);
            x.close(1);
            x.open(false);
            x.character(0, 1, 0, height, 0);
            x.put(1, MOST, false);
            shipped("base line of a box at " + height, x, 1 - height);
            x = new PageFile();
            x.open(true);
            x.rule(0, 1, -1, 0);
            x.close(2);
            x.open(true);
            x.space(MOST - 1 + height);
            x.put(2, 0, false);
            x.space(-height);
            shipped("base line in a column, " + height + " lower", x, 1 - height);
        }
    }

    private void leftEnd() {
        for (int left = 0; left <= 1; left++) {
            for (int items = 0; items <= 1; items++) {
                PageFile x = new PageFile();
                x.open(false);
                for (int i = 0; i < items; i++) {
                    x.space(0);
                }
                x.close(1);
                x.open(true);
                x.put(1, -MOST, false);
                x.close(1);
                x.open(false);
                x.space(-left);
                x.put(1, 0, false);
                shipped("left end at " + left + " to the left", x, 1 - left);
            }
        }
    }

    private void top() {
        for (int height = 0; height <= 1; height++) {
            PageFile x = column(-MOST);
            x.close(1);
            x.open(false);
            x.character(0, 1, 0, height, 0);
            x.put(1, 0, false);
            shipped("a column's top at " + height, x, 1 - height);
        }
    }

    private void lowerEnd() {
        for (int height = 0; height <= 1; height++) {
            PageFile x = new PageFile();
            x.open(false);
            x.character(0, 1, 0, height, 0);
            x.rule(0, -MOST, MOST, 0);
            shipped("a rule's lower end at " + height, x, 1 - height);
            x = new PageFile();
            x.open(false);
            x.character(0, 1, 0, height, MOST);
            x.rule(0, -MOST, 0, 4);
            shipped("a running rule's lower end at " + height, x, 1 - height);
        }
    }

    private void extent() {
        for (int more = 0; more <= 1; more++) {
            PageFile x = new PageFile();
            x.open(false);
            x.rule(1, -MOST, -more, 0);
            shipped("height and depth together, in a row, " + more, x, 1 - more);
            x = new PageFile();
            x.open(false);
            x.rule(1, MOST, more, 0);
            shipped("height and depth together, above, " + more, x, 1 - more);
            x = new PageFile();
            x.open(true);
            x.space(1);
            x.rule(1, -MOST, -more, 0);
            x.space(0);
            shipped("height and depth together, in a column, " + more, x, 1 - more);
            x = new PageFile();
            x.open(false);
            x.character(0, 1, 0, 0, more);
            x.rule(0, MOST, 0, 4);
            x.close(1);
            x.open(true);
            x.space(-5);
            x.put(1, 0, false);
            shipped("height and a running depth together, " + more, x, 1 - more);
        }
    }

    private void moves() {
        for (int more = 0; more <= 1; more++) {
            PageFile x = row(MOST);
            x.character(0, 1, 0, 0, 0);
            x.space(-MOST);
            x.space(-more);
            x.character(0, 1, 0, 0, 0);
            shipped("a move to the left by the largest SIZE and " + more, x, 1 - more);
            x = row(-MOST);
            x.character(0, 1, 0, 0, 0);
            x.space(MOST);
            x.space(more);
            x.rule(1, 1, 0, 0);
            shipped("a move to the right by the largest SIZE and " + more, x, 1 - more);
            x = row(0);
            x.close(1);
            x.open(true);
            x.space(-1);
            x.close(2);
            x.open(false);
            x.put(1, MOST, false);
            x.put(2, -more, false);
            shipped("a move up by the largest SIZE and " + more, x, 1 - more);
        }
        PageFile x = row(MOST);
        x.character(0, 1, 0, 0, 0);
        x.space(-MOST);
        x.space(-MOST);
        shipped("a move that is not written", x, 1);
    }

    private void fileIsAsBefore() {
        PageFile x = new PageFile();
        x.open(false);
        x.character(3, 1, 2, 2, 2);
        x.close(0);
        x.ship(0);
        int length = x.count(0);
        x.open(false);
        x.character(5, 1, 2, 2, 2);
        x.close(1);
        x.open(false);
        x.put(1, 0, false);
        x.character(6, 1, 100, 100, 100);
        x.space(MOST);
        x.space(-MOST);
        x.close(0);
        due.same("a page that can't be", Due.ship(x, 0), Due.UNSUPPORTED);
        due.same("bytes", x.count(0), length);
        due.same("what stood behind is gone", x.byteAt(length), -1);
        due.same("pages", x.count(1), 1);
        x.finish();
        due.bytes("the end", x, length, 248, 0, 0, 0, 15, 1, 131, 146, 192, 28, 59, 0, 0, 0, 0, 3, 232, 0, 0, 0, 4, 0,
                0, 0, 2, 0, 1, 0, 1, 243, 3, 0, 0, 0, 0, 0, 0, 0, 0, 0, 0, 0, 0, 0, 1, 68, 249);
    }
}
