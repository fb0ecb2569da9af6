/** Promise 9: of each place, move and sum on a page, the last that is a SIZE, and the first that is none. */
public final class EdgesOfPagesTest {
    private static final int MOST = 1073741823;
    private static final boolean ROW = false;
    private static final boolean COLUMN = true;

    /** Calls that make a page box in register 0; the number is 0 where all is a SIZE, and 1 where one thing is none. */
    private interface Maker {
        void make(Vain run, int beyond);
    }

    /** Calls that are taken and of which nothing is left, if the page can't be written. */
    private static final class Vain {
        private final Run run;
        private final boolean leavesNothing;

        Vain(Run run, boolean leavesNothing) {
            this.run = run;
            this.leavesNothing = leavesNothing;
        }

        private Vain call(Run.Question question) {
            if (leavesNothing) {
                run.takesInVain(question);
            } else {
                run.takes(question);
            }
            return this;
        }

        Vain open(boolean vertical) {
            return call(x -> x.open(vertical));
        }

        Vain close(int k) {
            return call(x -> x.close(k));
        }

        Vain put(int k, int shift) {
            return call(x -> x.put(k, shift, false));
        }

        Vain space(int width) {
            return call(x -> x.space(width));
        }

        Vain rule(int width, int height, int depth) {
            return call(x -> x.rule(width, height, depth, 0));
        }

        Vain running(int width, int bits) {
            return call(x -> x.rule(width, 0, 0, bits));
        }

        Vain character(int width, int height, int depth) {
            return call(x -> x.character(6, 1, width, height, depth));
        }

        /** A box in register 1, empty or with an item that is not seen. */
        Vain box(boolean vertical, boolean empty) {
            open(vertical);
            if (!empty) {
                space(0);
            }
            return close(1);
        }
    }

    private final Due due = new Due("EdgesOfPagesTest");

    public static void main(String[] args) {
        EdgesOfPagesTest test = new EdgesOfPagesTest();
        test.leftEnds();
        test.baseLinesInRows();
        test.baseLinesInColumns();
        test.behindItemsOfRows();
        test.behindItemsOfColumns();
        test.tops();
        test.lowerEnds();
        test.placesThatDoNotMatter();
        test.movesToTheRight();
        test.movesDown();
        test.movesThatAreNotWritten();
        test.heightAndDepthOfRules();
        test.heightAndDepthOfRunningRules();
        test.onTheFirstPage();
        test.movesOfAPageThatCouldNotBe();
        test.pageBoxes();
        test.behindTheEnd();
        test.due.end();
    }

    /** The page is written with 0; with 1 it can't be: the file is as before, and the register is void. */
    private void edge(String about, Maker maker) {
        Run good = before(about + ", just");
        maker.make(new Vain(good, false), 0);
        good.ships(0).counts(1, 2).counts(3, 4);
        good.fails("the register is void then", Due.ILLEGAL, x -> Due.ship(x, 0));
        Run bad = before(about + ", beyond");
        int length = bad.asks(x -> x.count(0));
        maker.make(new Vain(bad, true), 1);
        bad.fails("ship", Due.UNSUPPORTED, x -> Due.ship(x, 0));
        bad.counts(0, length).counts(1, 1).counts(2, 1).counts(3, 4).answers("size", 0, x -> x.size(0, 0));
        bad.fails("the register is void then", Due.ILLEGAL, x -> Due.ship(x, 0));
        bad.unchanged();
    }

    /** A page, a box in register 3, and an open list with an item: four items. */
    private Run before(String about) {
        Run run = new Run(due, about);
        run.takes(x -> x.open(ROW)).takes(x -> x.space(7)).takes(x -> x.character(4, 1, 2, 3, 4));
        run.takes(x -> x.close(0)).ships(0);
        run.takes(x -> x.open(ROW)).takes(x -> x.space(7)).takes(x -> x.character(6, 1, 2, 3, 4));
        return run.takes(x -> x.close(3)).takes(x -> x.open(COLUMN)).takes(x -> x.rule(1, 2, 3, 0));
    }

    /** "a place, of a box's left end .. (written or not)": in a column, by a shift. */
    private void leftEnds() {
        for (int i = 0; i < 4; i++) {
            boolean empty = i % 2 == 0;
            boolean vertical = i / 2 == 0;
            edge("left end, to the left", (run, beyond) -> run.box(vertical, empty)
                    .open(COLUMN).put(1, -MOST).close(1).open(ROW).space(-beyond).put(1, 0).close(0));
            edge("left end of the last item, to the left", (run, beyond) -> run.box(vertical, empty)
                    .open(COLUMN).rule(5, 5, 5).put(1, -MOST).close(1).open(ROW).space(-beyond).put(1, 0).close(0));
        }
        // The box inside is narrower than nothing, so that the place behind the column is a SIZE still.
        edge("left end, to the right", (run, beyond) -> run.open(ROW).space(-1).close(1)
                .open(COLUMN).put(1, MOST).close(1).open(ROW).space(beyond).put(1, 0).close(0));
    }

    /** "a place, of a box's .. base line (written or not)": in a row, by a shift. */
    private void baseLinesInRows() {
        for (int i = 0; i < 4; i++) {
            boolean empty = i % 2 == 0;
            boolean vertical = i / 2 == 0;
            edge("base line in a row, below", (run, beyond) -> run.box(vertical, empty)
                    .open(ROW).character(0, beyond, 0).put(1, MOST).close(0));
        }
        // The box inside is lower than nothing, so that the row is not higher by its shift.
        edge("base line in a row, above", (run, beyond) -> run.open(COLUMN).space(-MOST).close(1)
                .open(ROW).put(1, -MOST).close(1).open(COLUMN).space(-beyond).put(1, 0).close(0));
    }

    /** The base line in a column, where the place behind the box is a SIZE. */
    private void baseLinesInColumns() {
        edge("base line in a column, below", (run, beyond) -> run.open(COLUMN).rule(0, 1, -1).close(1)
                .open(COLUMN).space(MOST - 1 + beyond).put(1, 0).space(-1).close(0));
        edge("base line in a column, above", (run, beyond) -> run.open(COLUMN).rule(0, -1, 1).close(1)
                .open(COLUMN).space(1 - MOST - beyond).put(1, 0).space(1).close(0));
    }

    /** "a place, .. behind an item": to the right. */
    private void behindItemsOfRows() {
        for (int i = 0; i < 2; i++) {
            int sign = i == 0 ? 1 : -1;
            edge("behind space in a row", (run, beyond) -> run.open(ROW)
                    .space(sign * MOST).space(sign * beyond).space(-sign).close(0));
            edge("behind a character", (run, beyond) -> run.open(ROW)
                    .space(sign * (MOST - 1)).character(sign * (1 + beyond), 0, 0).space(-sign).close(0));
            edge("behind a rule in a row, not written", (run, beyond) -> run.open(ROW)
                    .space(sign * (MOST - 1)).rule(sign * (1 + beyond), 0, 0).space(-sign).close(0));
            edge("behind a box in a row", (run, beyond) -> run.open(ROW).space(sign * (1 + beyond)).close(1)
                    .open(ROW).space(sign * (MOST - 1)).put(1, 0).space(-sign).close(0));
        }
        edge("behind a rule in a row", (run, beyond) -> run.open(ROW)
                .space(MOST - 1).rule(1 + beyond, 1, 0).space(-1).close(0));
        edge("behind the last item of a box in a box", (run, beyond) -> run.open(ROW).space(MOST).close(1)
                .open(COLUMN).put(1, -1).close(1).open(ROW).space(1 + beyond).put(1, 0).space(-beyond).close(0));
    }

    /** "a place, .. behind an item": down. */
    private void behindItemsOfColumns() {
        for (int i = 0; i < 2; i++) {
            int sign = i == 0 ? 1 : -1;
            edge("behind space in a column", (run, beyond) -> run.open(COLUMN)
                    .space(sign * MOST).space(sign * beyond).space(-sign).close(0));
            edge("behind a rule in a column, not written", (run, beyond) -> run.open(COLUMN)
                    .space(sign * (MOST - 1)).rule(0, 0, sign * (1 + beyond)).space(-sign).close(0));
            edge("behind a box in a column", (run, beyond) -> run.open(COLUMN).rule(0, 0, sign * (1 + beyond)).close(1)
                    .open(COLUMN).space(sign * (MOST - 1)).put(1, 0).space(-sign).close(0));
        }
        edge("behind a rule in a column", (run, beyond) -> run.open(COLUMN)
                .space(MOST - 1).rule(1, 1, beyond).space(-1).close(0));
        // A character's depth is no place, so that nothing in the box is beyond.
        edge("behind a box with a character", (run, beyond) -> run.open(ROW).character(0, 0, 1 + beyond).close(1)
                .open(COLUMN).space(MOST - 1).put(1, 0).space(-3).close(0));
        edge("behind the last item of a column", (run, beyond) -> run.open(ROW).character(0, 0, 1 + beyond).close(1)
                .open(COLUMN).space(MOST - 1).put(1, 0).close(0));
    }

    /** "a place, .. of a vertical box's top": its base line is a SIZE here. */
    private void tops() {
        edge("a top in a row", (run, beyond) -> run.open(COLUMN).space(-MOST).close(1)
                .open(ROW).character(0, beyond, 0).put(1, 0).close(0));
        edge("a top in a row, by a shift", (run, beyond) -> run.open(COLUMN).rule(0, 1 - MOST, 0).close(1)
                .open(ROW).put(1, 1 + beyond).close(0));
        // A row has no top that could be no SIZE.
        Run row = before("a row as high as that");
        new Vain(row, false).open(ROW).character(0, MOST, 0).close(1)
                .open(ROW).put(1, MOST).close(1).open(COLUMN).space(-1).put(1, 0).close(0);
        row.ships(0);
    }

    /** "a place, .. of a rule's lower end (written or not)". */
    private void lowerEnds() {
        for (int width = 0; width <= 1; width++) {
            int wide = width;
            edge("a lower end in a row", (run, beyond) -> run.open(ROW)
                    .character(0, beyond, 0).rule(wide, 1 - MOST, MOST).close(0));
            edge("a running rule's lower end", (run, beyond) -> run.open(ROW)
                    .character(0, beyond, MOST - 1).rule(0, 0, MOST).running(wide, 4).close(0));
        }
        edge("a lower end in a row, above", (run, beyond) -> run.open(ROW).rule(1, 0, -MOST).close(1)
                .open(COLUMN).space(-beyond).put(1, 0).close(0));
    }

    /** What the document does not name may be no SIZE: a rule's base line, and a box's lower end in a row. */
    private void placesThatDoNotMatter() {
        Run baseLine = before("a rule's base line in a column");
        new Vain(baseLine, false).open(COLUMN).space(MOST - 1).rule(1, 2, -1).space(-1).close(0);
        baseLine.ships(0);
        Run lowerEnd = before("a box's lower end in a row");
        new Vain(lowerEnd, false).open(ROW).character(0, MOST, MOST).close(1).open(ROW).put(1, 0).close(0);
        lowerEnd.ships(0);
    }

    /** "or a move" is no SIZE: ahead of characters, rules and 141, to the right and to the left. */
    private void movesToTheRight() {
        for (int i = 0; i < 2; i++) {
            int sign = i == 0 ? 1 : -1;
            edge("a move to a character", (run, beyond) -> run.open(ROW).space(-sign * beyond).character(0, 0, 0)
                    .space(sign * MOST).space(sign * beyond).character(0, 0, 0).close(0));
            edge("a move to a box", (run, beyond) -> run.box(ROW, false).open(ROW).space(-sign * beyond)
                    .character(0, 0, 0).space(sign * MOST).space(sign * beyond).put(1, 0).close(0));
        }
        edge("a move to the right to a rule, from behind another", (run, beyond) -> run.open(ROW)
                .space(-2 - beyond).rule(1, 1, 1).space(MOST).space(beyond).rule(1, 1, 1).close(0));
        edge("a move to the left to a rule, from behind another", (run, beyond) -> run.open(ROW)
                .space(beyond - 1).rule(1, 1, 1).space(-MOST).space(-beyond).rule(1, 1, 1).close(0));
        edge("a move to the left, from behind a character", (run, beyond) -> run.open(ROW)
                .character(beyond, 1, 1).space(-MOST).space(-beyond).character(0, 0, 0).close(0));
        edge("a move to the left, from where 141 was", (run, beyond) -> run
                .open(ROW).space(-9).character(0, 0, 0).close(1)
                .open(ROW).space(beyond).put(1, 0).space(9).space(-MOST).space(-beyond).character(0, 0, 0).close(0));
    }

    /** The same down and up; behind a box the place is where its 141 was. */
    private void movesDown() {
        edge("a move down to a rule", (run, beyond) -> run.open(COLUMN).space(-1).close(1)
                .open(ROW).put(1, -beyond).rule(1, 1 - MOST, MOST).close(0));
        edge("a move down to a box", (run, beyond) -> run.box(ROW, false)
                .open(COLUMN).space(-1).close(2).open(ROW).put(2, -beyond).put(1, MOST).close(0));
        edge("a move up to a box", (run, beyond) -> run.box(ROW, false).open(COLUMN).space(-1).close(2)
                .open(ROW).put(1, MOST).put(2, -beyond).close(0));
        edge("a move down to a box in a column", (run, beyond) -> run.box(ROW, false).open(ROW).space(0).close(2)
                .open(COLUMN).space(-beyond).put(1, 0).space(MOST).space(beyond).put(2, 0).close(0));
        edge("a move up to a box in a column", (run, beyond) -> run.box(ROW, false)
                .open(COLUMN).space(MOST - 1).rule(1, 1, 0).space(-MOST).space(-beyond).put(1, 0).close(0));
        edge("a move up to a rule in a column", (run, beyond) -> run
                .open(COLUMN).space(MOST - 1).rule(1, 1, 0).space(-MOST).space(-beyond - 1).rule(1, 1, 0).close(0));
    }

    /** Moves are told of only where they are written: not ahead of space, of what is not seen, and of 142. */
    private void movesThatAreNotWritten() {
        Run run = before("moves that are not written");
        Vain calls = new Vain(run, false);
        calls.box(ROW, true).open(ROW).space(MOST).character(0, 0, 0).space(-MOST).space(-MOST);
        calls.rule(0, 5, 5).put(1, 0).space(1).rule(-1, 5, 5).rule(0, 0, 0).close(0);
        run.ships(0);
    }

    /** "or height and depth of a rule together (written or not)". */
    private void heightAndDepthOfRules() {
        for (int width = 0; width <= 1; width++) {
            int wide = width;
            edge("height and depth in a row", (run, beyond) -> run.open(ROW).rule(wide, MOST - 1, 1 + beyond).close(1)
                    .open(COLUMN).space(-5).put(1, 0).close(0));
            edge("height and depth in a row, below 0", (run, beyond) -> run.open(ROW)
                    .rule(wide, 1 - MOST, -1 - beyond).close(0));
            edge("height and depth in a column", (run, beyond) -> run.open(COLUMN)
                    .space(-1).rule(wide, MOST, beyond).close(0));
            edge("height and depth in a column, below 0", (run, beyond) -> run.open(COLUMN)
                    .space(1).rule(wide, -MOST, -beyond).space(1).close(0));
            edge("depth and height in a column", (run, beyond) -> run.open(COLUMN)
                    .space(-1).rule(wide, beyond, MOST).close(0));
        }
    }

    /** A running one is that of the box, "(running: of this box)". */
    private void heightAndDepthOfRunningRules() {
        for (int width = 0; width <= 1; width++) {
            int wide = width;
            edge("running height and depth", (run, beyond) -> run.open(ROW).character(0, MOST - 1, 1 + beyond)
                    .running(wide, 6).close(1).open(COLUMN).space(-5).put(1, 0).close(0));
        }
    }

    /** A page that can't be written leaves the file empty, if it was: no beginning, and no page 1. */
    private void onTheFirstPage() {
        Run run = new Run(due, "a first page that can't be");
        Vain calls = new Vain(run, true);
        calls.open(ROW).character(1, 1, 1).space(MOST).space(-MOST).close(0);
        run.fails("ship", Due.UNSUPPORTED, x -> Due.ship(x, 0)).counts(0, 0).counts(1, 0).counts(3, 0);
        run.answers("byteAt(0)", -1, x -> x.byteAt(0)).unchanged();
        run.spaces(0, 1).answers("a page then", 61, x -> Due.ship(x, 0));
        run.bytes("it is the first", 15, 139, 0, 0, 0, 1).unchanged();
    }

    /** W, X, Y, Z, which was used longer ago and the font before are not left, either. */
    private void movesOfAPageThatCouldNotBe() {
        for (int moves = 1; moves <= 3; moves++) {
            Run run = before("moves of a page that could not be");
            Vain calls = new Vain(run, true).open(ROW);
            int[] by = {7, 8, 7};
            for (int i = 0; i < moves; i++) {
                calls.space(by[i]).rule(1, 3, 7 * i).character(0, 0, 0);
            }
            calls.space(MOST).space(-MOST).close(0);
            run.fails("ship", Due.UNSUPPORTED, x -> Due.ship(x, 0)).unchanged();
            run.takes(x -> x.open(ROW)).takes(x -> x.space(8)).takes(x -> x.rule(1, 3, 0, 0)).takes(x -> x.space(7));
            run.takes(x -> x.rule(1, 0, 7, 0)).takes(x -> x.character(6, 1, 0, 0, 0)).takes(x -> x.close(0)).ships(0);
            run.bytes("the next page", 86 + 45, 162, 3, 141, 148, 8, 132, 0, 0, 0, 3, 0, 0, 0, 1, 153, 7, 167, 7, 132,
                    0, 0, 0, 7, 0, 0, 0, 1, 162, 249, 243, 6);
            run.unchanged();
        }
    }

    /** "A page box stands at 0 to the right, its base line at its height below 0": the largest and the least height. */
    private void pageBoxes() {
        Run high = new Run(due, "the highest page");
        new Vain(high, false).open(ROW).character(0, MOST, 0).close(0);
        high.ships(0).bytes("its base line", 60, 165, 63, 255, 255, 255, 141, 243);
        Run low = new Run(due, "the lowest page");
        new Vain(low, false).open(COLUMN).space(-MOST).close(0);
        low.ships(0).bytes("its base line", 60, 165, 192, 0, 0, 1, 141, 142, 140, -1);
        Run none = new Run(due, "a page without height");
        new Vain(none, false).open(COLUMN).rule(1, 0, 5).close(0);
        none.ships(0).bytes("no move to its base line", 60, 141, 162, 5, 137, 0, 0, 0, 5, 0, 0, 0, 1, 142, 140, -1);
    }

    /** "IllegalStateException if the file has its end": also where the page could not have been written. */
    private void behindTheEnd() {
        Run run = before("behind the end");
        run.answers("finish", 144, Due::finish);
        new Vain(run, false).open(ROW).space(MOST).space(1).space(-1).close(0);
        run.fails("a page that can't be", Due.ILLEGAL, x -> Due.ship(x, 0));
        run.fails("a page that could be", Due.ILLEGAL, x -> Due.ship(x, 3));
        run.fails("a void register", Due.ILLEGAL, x -> Due.ship(x, 5));
        run.fails("finish again", Due.ILLEGAL, Due::finish);
        run.counts(1, 1).counts(4, 1).counts(3, 8).unchanged();
    }
}
