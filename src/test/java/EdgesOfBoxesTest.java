/** "A list becomes a BOX": what each of its sizes is where nothing counts, and where it is just a SIZE or none. */
public final class EdgesOfBoxesTest {
    private static final int MOST = 1073741823;

    private final Due due = new Due("EdgesOfBoxesTest");

    public static void main(String[] args) {
        EdgesOfBoxesTest test = new EdgesOfBoxesTest();
        test.emptyLists();
        test.widthOfARow();
        test.heightOfARow();
        test.depthOfARow();
        test.runningInARow();
        test.widthOfAColumn();
        test.depthOfAColumn();
        test.heightOfAColumn();
        test.widthThatIsNoSize();
        test.heightAndDepthOfARowThatAreNoSizes();
        test.sizesOfAColumnThatAreNoSizes();
        test.inPlaceOfWhatWasThere();
        test.due.end();
    }

    /** A run with a list open, and a box of width 10, height 20 and depth 30 in register 7. */
    private Run list(String about, boolean vertical) {
        Run run = new Run(due, about);
        run.takes(x -> x.open(false)).takes(x -> x.character(0, 0, 10, 20, 30)).takes(x -> x.close(7));
        return run.takes(x -> x.open(vertical));
    }

    private Run row(String about) {
        return list(about, false);
    }

    private Run column(String about) {
        return list(about, true);
    }

    private void becomes(Run run, int width, int height, int depth) {
        run.takes("close", x -> x.close(0)).counts(2, 0);
        run.answers("width", width, x -> x.size(0, 0)).answers("height", height, x -> x.size(0, 1));
        run.answers("depth", depth, x -> x.size(0, 2));
    }

    /** The list is open still, is as before, and becomes a box with this item more. */
    private void becomesNone(Run run, int space) {
        run.refuses("close", x -> x.close(0)).refuses("in the other register", x -> x.close(7)).counts(2, 1);
        run.unchanged();
        run.takes("an item more", x -> x.space(space)).takes("close then", x -> x.close(0)).counts(2, 0);
    }

    private void emptyLists() {
        becomes(row("an empty row"), 0, 0, 0);
        becomes(column("an empty column"), 0, 0, 0);
    }

    /** "its width is the sum of the widths of all items". */
    private void widthOfARow() {
        becomes(row("a row's width, one item").takes(x -> x.space(-3)), -3, 0, 0);
        Run all = row("a row's width").takes(x -> x.character(1, 1, 1000, 0, 0)).takes(x -> x.rule(200, 0, 0, 0));
        all.takes(x -> x.space(-4000)).takes(x -> x.rule(50000, 0, 0, 6)).takes(x -> x.put(7, 5, true));
        becomes(all, 1000 + 200 - 4000 + 50000 + 10, 15, 35);
    }

    /** "its height the greatest height (of a box less its shift) of characters, rules and boxes, 0 if none is more". */
    private void heightOfARow() {
        for (int height = -1; height <= 1; height++) {
            int high = height;
            int due = Math.max(height, 0);
            becomes(row("a character's height").takes(x -> x.character(1, 1, 0, high, 0)), 0, due, 0);
            becomes(row("a rule's height").takes(x -> x.rule(0, high, 0, 0)), 0, due, 0);
            becomes(row("a box's height").takes(x -> x.put(7, 20 - high, true)), 10, due, 50 - high);
        }
        becomes(row("space has no height").takes(x -> x.space(99)), 99, 0, 0);
        Run greatest = row("the greatest height").takes(x -> x.rule(0, 4, 0, 0)).takes(x -> x.put(7, 15, true));
        becomes(greatest.takes(x -> x.character(1, 1, 0, 3, 0)), 10, 5, 45);
    }

    /** "its depth likewise (with the shift)". */
    private void depthOfARow() {
        for (int depth = -1; depth <= 1; depth++) {
            int deep = depth;
            int due = Math.max(depth, 0);
            becomes(row("a character's depth").takes(x -> x.character(1, 1, 0, 0, deep)), 0, 0, due);
            becomes(row("a rule's depth").takes(x -> x.rule(0, 0, deep, 0)), 0, 0, due);
            becomes(row("a box's depth").takes(x -> x.put(7, deep - 30, true)), 10, 50 - deep, due);
        }
        Run greatest = row("the greatest depth").takes(x -> x.rule(0, 0, 4, 0)).takes(x -> x.put(7, -25, true));
        becomes(greatest.takes(x -> x.character(1, 1, 0, 0, 3)), 10, 45, 5);
    }

    /** "Running ones do not count". */
    private void runningInARow() {
        becomes(row("running height and depth").takes(x -> x.rule(2, 60, 70, 6)), 2, 0, 0);
        becomes(row("running height").takes(x -> x.rule(2, 60, 70, 2)), 2, 0, 70);
        becomes(row("running depth").takes(x -> x.rule(2, 60, 70, 4)), 2, 60, 0);
        Run largest = row("running, the largest").takes(x -> x.rule(2, MOST, MOST, 6));
        becomes(largest.takes(x -> x.rule(2, 1, 1, 0)), 4, 1, 1);
        becomes(column("running width").takes(x -> x.rule(60, 3, 4, 1)), 0, 3, 4);
        Run another = column("running width and another").takes(x -> x.rule(60, 3, 4, 1));
        becomes(another.takes(x -> x.rule(5, 1, 1, 0)), 5, 8, 1);
    }

    /** "its width is the greatest width (of a box with its shift) of rules and boxes, 0 if none is more". */
    private void widthOfAColumn() {
        for (int width = -1; width <= 1; width++) {
            int wide = width;
            int due = Math.max(width, 0);
            becomes(column("a rule's width").takes(x -> x.rule(wide, 0, 0, 0)), due, 0, 0);
            becomes(column("a box's width").takes(x -> x.put(7, wide - 10, true)), due, 20, 30);
        }
        becomes(column("space has no width").takes(x -> x.space(99)), 0, 99, 0);
        Run greatest = column("the greatest width").takes(x -> x.rule(7, 0, 0, 0)).takes(x -> x.put(7, -2, true));
        becomes(greatest.takes(x -> x.rule(6, 0, 0, 0)), 8, 50, 0);
    }

    /** "its depth that of the last item, if it is a box or rule, else 0". */
    private void depthOfAColumn() {
        becomes(column("the last is a box").takes(x -> x.rule(0, 1, 2, 0)).takes(x -> x.put(7, 0, true)), 10, 23, 30);
        becomes(column("the last is a rule").takes(x -> x.put(7, 0, true)).takes(x -> x.rule(0, 1, 2, 0)), 10, 51, 2);
        becomes(column("the last is space").takes(x -> x.put(7, 0, true)).takes(x -> x.space(0)), 10, 50, 0);
        becomes(column("a running rule's").takes(x -> x.rule(0, 1, 2, 1)), 0, 1, 2);
        becomes(column("below 0").takes(x -> x.rule(0, 1, -2, 0)), 0, 1, -2);
        becomes(column("the least").takes(x -> x.rule(0, 1, -MOST, 0)), 0, 1, -MOST);
        becomes(column("the largest").takes(x -> x.rule(0, 1, MOST, 0)), 0, 1, MOST);
    }

    /** "its height the sum of heights and depths of boxes and rules and of widths of space, less this depth". */
    private void heightOfAColumn() {
        becomes(column("below 0").takes(x -> x.space(-1)), 0, -1, 0);
        becomes(column("a rule's, below 0").takes(x -> x.rule(0, -7, 0, 0)), 0, -7, 0);
        Run all = column("a column's height").takes(x -> x.rule(0, 1000, 200, 1)).takes(x -> x.space(-40000));
        all.takes(x -> x.put(7, 9, true)).takes(x -> x.rule(0, 500000, 3000000, 0)).takes(x -> x.put(7, 0, true));
        becomes(all, 19, 1200 - 40000 + 50 + 3500000 + 20, 30);
    }

    /** close: "false (the list is open still) if .. a size of the box is no SIZE": the width of a row. */
    private void widthThatIsNoSize() {
        becomes(row("the widest row").takes(x -> x.space(MOST - 10)).takes(x -> x.put(7, 0, true)), MOST, 20, 30);
        becomesNone(row("too wide a row").takes(x -> x.space(MOST - 9)).takes(x -> x.put(7, 0, true)), -1);
        becomes(row("the narrowest row").takes(x -> x.space(-MOST)).takes(x -> x.space(0)), -MOST, 0, 0);
        becomesNone(row("too narrow a row").takes(x -> x.space(-MOST)).takes(x -> x.space(-1)), 1);
        Run wrapped = row("a width that an int can't hold");
        for (int i = 0; i < 4; i++) {
            wrapped.takes(x -> x.space(MOST));
        }
        wrapped.takes(x -> x.space(5)).refuses("close", x -> x.close(0)).counts(2, 1).unchanged();
    }

    private void heightAndDepthOfARowThatAreNoSizes() {
        becomes(row("the highest row").takes(x -> x.put(7, 20 - MOST, true)), 10, MOST, 0);
        Run high = row("too high a row").takes(x -> x.put(7, 19 - MOST, true));
        high.refuses("close", x -> x.close(0)).refuses("elsewhere", x -> x.close(7)).counts(2, 1).unchanged();
        becomes(row("the deepest row").takes(x -> x.put(7, MOST - 30, true)), 10, 0, MOST);
        Run deep = row("too deep a row").takes(x -> x.put(7, MOST - 29, true));
        deep.refuses("close", x -> x.close(0)).refuses("elsewhere", x -> x.close(7)).counts(2, 1).unchanged();
    }

    private void sizesOfAColumnThatAreNoSizes() {
        becomes(column("the widest column").takes(x -> x.put(7, MOST - 10, true)), MOST, 20, 30);
        Run wide = column("too wide a column").takes(x -> x.put(7, MOST - 9, true));
        wide.refuses("close", x -> x.close(0)).refuses("elsewhere", x -> x.close(7)).counts(2, 1).unchanged();
        Run highest = column("the highest column").takes(x -> x.space(MOST - 20));
        becomes(highest.takes(x -> x.put(7, 0, true)), 10, MOST, 30);
        becomesNone(column("too high a column").takes(x -> x.space(MOST - 19)).takes(x -> x.put(7, 0, true)), -31);
        becomes(column("the lowest column").takes(x -> x.space(-MOST)).takes(x -> x.rule(0, 0, 5, 0)), 0, -MOST, 5);
        becomesNone(column("too low a column").takes(x -> x.space(-MOST)).takes(x -> x.rule(0, -1, 5, 0)), -4);
        becomesNone(column("less a depth below 0").takes(x -> x.space(MOST)).takes(x -> x.rule(0, 1, -1, 0)), 0);
        Run lastDepth = column("a depth that does not count").takes(x -> x.space(MOST));
        becomes(lastDepth.takes(x -> x.rule(0, 0, 9, 0)), 0, MOST, 9);
        becomesNone(column("a depth that counts").takes(x -> x.rule(0, MOST, 9, 0)).takes(x -> x.rule(0, 0, 0, 0)), -9);
        Run wrapped = column("a height that an int can't hold");
        for (int i = 0; i < 4; i++) {
            wrapped.takes(x -> x.space(MOST));
        }
        wrapped.takes(x -> x.space(5)).refuses("close", x -> x.close(0)).counts(2, 1).unchanged();
    }

    /** close: the box "comes into register k in place of what was there". */
    private void inPlaceOfWhatWasThere() {
        Run run = row("in place of the other").takes(x -> x.space(3)).takes(x -> x.close(7)).counts(3, 2);
        run.answers("width", 3, x -> x.size(7, 0)).answers("height", 0, x -> x.size(7, 1));
        run.takes(x -> x.open(false)).takes("its own box in it", x -> x.put(7, 0, true)).takes(x -> x.close(7));
        run.answers("width", 3, x -> x.size(7, 0)).counts(3, 3);
    }
}
