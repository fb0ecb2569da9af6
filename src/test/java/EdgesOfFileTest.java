import java.util.Arrays;

/** "THE FILE": where something stands or not, where a form changes, and what comes first and last. */
public final class EdgesOfFileTest {
    private static final int MOST = 1073741823;
    private static final int CONTENT = 60;
    private static final boolean ROW = false;
    private static final boolean COLUMN = true;

    private final Due due = new Due("EdgesOfFileTest");

    public static void main(String[] args) {
        EdgesOfFileTest test = new EdgesOfFileTest();
        test.beginning();
        test.pages();
        test.placeOfTheLastPage();
        test.greatestHeightAndDepth();
        test.greatestWidth();
        test.howDeep();
        test.howManyPages();
        test.fontsAtTheEnd();
        test.filling();
        test.letters();
        test.fontsAsTheyAreThen();
        test.fontChoices();
        test.codes();
        test.rulesInRows();
        test.rulesInColumns();
        test.runningRules();
        test.boxesWithItems();
        test.movesOfEachLength();
        test.movesThatAreZero();
        test.movesThatAreKept();
        test.movesAtFirst();
        test.savedAndBack();
        test.fromTheTopDown();
        test.aheadOfFonts();
        test.due.end();
    }

    private Run run(String about) {
        return new Run(due, about);
    }

    /** An end whose bytes from the 18th on (the greatest sizes, the depth and the pages) are these. */
    private static void ends(Run run, int... want) {
        int place = Math.max(15, run.asks(x -> x.count(0)));
        run.asks(Due::finish);
        run.bytes("the end", place, 248);
        run.bytes("the end", place + 17, want);
    }

    private static Run character(Run run, int width, int height, int depth) {
        run.takes(x -> x.open(ROW)).takes(x -> x.character(0, 1, width, height, depth));
        return run.takes(x -> x.close(0));
    }

    /** "It begins, with the first page or at its end, with ..": once, and not before. */
    private void beginning() {
        int[] begin = {247, 2, 1, 131, 146, 192, 28, 59, 0, 0, 0, 0, 3, 232, 0};
        Run page = run("with the first page").spaces(0, 1).takes(x -> x.font(1, 1, 1)).counts(0, 0);
        page.ships(0).bytes("it begins", 0, begin).bytes("the page", 15, 139).counts(0, 61);
        page.spaces(0, 1).ships(0).counts(0, 107).bytes("the second page", 61, 139);
        page.answers("finish", 148, Due::finish).bytes("the end", 107, 248);
        Run end = run("at its end").answers("finish", 56, Due::finish);
        end.bytes("it begins", 0, begin).bytes("the end", 15, 248);
    }

    /** "A PAGE: 139, its number (1, 2, ..) and nine 0 (four each), the place of the 139 before it, or -1". */
    private void pages() {
        Run run = run("pages");
        for (int i = 0; i < 3; i++) {
            run.spaces(0, 1).ships(0);
        }
        int[] places = {255, 255, 255, 255, 0, 0, 0, 15, 0, 0, 0, 61};
        for (int i = 0; i < 3; i++) {
            int at = 15 + 46 * i;
            run.bytes("page " + i, at, 139, 0, 0, 0, i + 1);
            run.bytes("nine 0", at + 5, new int[36]);
            run.bytes("the place before", at + 41, Arrays.copyOfRange(places, 4 * i, 4 * i + 4));
            run.bytes("its end", at + 45, 140);
        }
        run.counts(0, 153).counts(1, 3);
    }

    /** "248, the place of the last 139 (-1 without)". */
    private void placeOfTheLastPage() {
        Run none = run("no page").answers("finish", 56, Due::finish);
        none.bytes("-1", 15, 248, 255, 255, 255, 255, 1, 131, 146, 192);
        Run one = run("one page").spaces(0, 1).ships(0).answers("finish", 100, Due::finish);
        one.bytes("15", 61, 248, 0, 0, 0, 15, 1, 131, 146, 192);
        Run three = run("three pages").spaces(0, 1).ships(0).spaces(0, 2).ships(0).spaces(0, 3).ships(0);
        three.answers("finish", 196, Due::finish).bytes("109", 157, 248, 0, 0, 0, 109, 1, 131, 146, 192);
    }

    /** "the greatest height and depth together (0 if none is more)": of pages that are written. */
    private void greatestHeightAndDepth() {
        for (int sum = -1; sum <= 1; sum++) {
            int high = sum + 5;
            Run run = run("height and depth together " + sum);
            run.takes(x -> x.open(COLUMN)).takes(x -> x.rule(0, high, -5, 0)).takes(x -> x.close(0)).ships(0);
            ends(run, 0, 0, 0, Math.max(sum, 0), 0, 0, 0, 0, 0, 1, 0, 1);
        }
        Run most = character(run("the largest of all"), 0, MOST, MOST).ships(0);
        ends(most, 127, 255, 255, 254, 0, 0, 0, 0, 0, 1, 0, 1);
        Run least = run("the least of all");
        least.takes(x -> x.open(COLUMN)).takes(x -> x.rule(0, -MOST, 0, 0)).takes(x -> x.close(0)).ships(0);
        ends(least, 0, 0, 0, 0, 0, 0, 0, 0, 0, 1, 0, 1);
        Run together = character(run("not each of them"), 0, 9, 0).ships(0);
        character(together, 0, 0, 8).ships(0);
        ends(character(together, 0, 4, 4).ships(0), 0, 0, 0, 9, 0, 0, 0, 0, 0, 1, 0, 3);
        ends(run("no page").spaces(0, 1), 0, 0, 0, 0, 0, 0, 0, 0, 0, 0, 0, 0);
    }

    /** "and the greatest width of page boxes (likewise ..)". */
    private void greatestWidth() {
        for (int width = -1; width <= 1; width++) {
            Run run = character(run("width " + width), width, 0, 0).ships(0);
            ends(run, 0, 0, 0, 0, 0, 0, 0, Math.max(width, 0), 0, 1, 0, 1);
        }
        ends(character(run("the largest"), MOST, 0, 0).ships(0), 0, 0, 0, 0, 63, 255, 255, 255, 0, 1, 0, 1);
        Run first = character(run("the greatest first"), 300, 0, 0).ships(0);
        ends(character(first, 299, 0, 0).ships(0), 0, 0, 0, 0, 0, 0, 1, 44, 0, 1, 0, 2);
        Run inside = character(run("of page boxes alone"), 300, 0, 0);
        inside.takes(x -> x.open(ROW)).takes(x -> x.put(0, 0, false)).takes(x -> x.space(-200)).takes(x -> x.close(0));
        ends(inside.ships(0), 0, 0, 0, 0, 0, 0, 0, 100, 0, 2, 0, 1);
    }

    /** "how deep 141 went": 0 with empty pages, 100 with as many boxes as can be inside one another. */
    private void howDeep() {
        ends(run("empty pages").spaces(0, 1).ships(0), 0, 0, 0, 0, 0, 0, 0, 0, 0, 0, 0, 1);
        for (int items = 1; items <= 2; items++) {
            Run run = run("100 boxes, the innermost of " + (items - 1) + " items").spaces(0, items);
            for (int i = 1; i < 100; i++) {
                run.takes(x -> x.open(ROW)).takes(x -> x.put(0, 0, false)).takes(x -> x.close(0));
            }
            run.ships(0).spaces(0, 2).ships(0);
            ends(run, 0, 0, 0, 0, 0, 0, 0, 0, 0, 98 + items, 0, 2);
        }
        Run beside = run("beside one another").spaces(1, 2).takes(x -> x.open(ROW)).takes(x -> x.put(1, 0, true));
        beside.takes(x -> x.put(1, 0, true)).takes(x -> x.put(1, 0, true)).takes(x -> x.close(0)).ships(0);
        ends(beside, 0, 0, 0, 0, 0, 0, 0, 0, 0, 2, 0, 1);
    }

    /** "how many pages (two each, the lowest ones)". */
    private void howManyPages() {
        Run run = run("150 pages");
        for (int i = 0; i < 150; i++) {
            run.spaces(0, 1).ships(0);
        }
        run.counts(1, 150);
        ends(run, 0, 0, 0, 0, 0, 0, 0, 0, 0, 0, 0, 150);
    }

    /** "all fonts used, by falling numbers": those whose characters are on pages, each once. */
    private void fontsAtTheEnd() {
        Run run = run("fonts at the end").takes(x -> x.font(5, 1, 1)).takes(x -> x.open(ROW));
        for (int k : new int[] {0, 31, 7, 0, 31, 30}) {
            run.takes(x -> x.character(k, 1, 0, 0, 0));
        }
        run.takes(x -> x.close(0)).ships(0).takes(x -> x.open(ROW)).takes(x -> x.character(9, 1, 0, 0, 0));
        run.takes("a box that is no page", x -> x.close(1));
        int place = run.asks(x -> x.count(0)) + 29;
        run.asks(Due::finish);
        int[] want = {31, 30, 7, 0};
        for (int i = 0; i < 4; i++) {
            run.bytes("font", place + 17 * i, 243, want[i]);
        }
        run.bytes("behind them", place + 68, 249, 0, 0, (place - 29) / 256, (place - 29) % 256, 2, 223, 223, 223, 223);
    }

    /** "223 four to seven times, so that the length is a multiple of 4". */
    private void filling() {
        for (int more = 0; more < 4; more++) {
            Run run = run("filling").takes(x -> x.open(ROW));
            for (int i = 0; i <= more; i++) {
                run.takes(x -> x.character(0, 1, 0, 0, 0));
            }
            run.takes(x -> x.close(0)).ships(0);
            int behind = 15 + 46 + 2 + 18 + more + 1 + 29 + 17 + 6;
            int length = (behind + 7) / 4 * 4;
            run.answers("finish", length, Due::finish);
            int[] all = new int[length - behind + 2];
            Arrays.fill(all, 223);
            all[0] = 2;
            all[all.length - 1] = -1;
            run.bytes((length - behind) + " times", behind - 1, all);
        }
    }

    /** "65 + k % 26". */
    private void letters() {
        int[] fonts = {0, 1, 25, 26, 27, 31};
        int[] letters = {65, 66, 90, 65, 66, 70};
        for (int i = 0; i < fonts.length; i++) {
            int font = fonts[i];
            Run run = run("the letter of font " + font).takes(x -> x.open(ROW));
            run.takes(x -> x.character(font, 1, 0, 0, 0)).takes(x -> x.close(0)).ships(0);
            run.bytes("the letter", CONTENT + 1, 243, font, 0, 0, 0, 0, 0, 0, 0, 0, 0, 0, 0, 0, 0, 1, letters[i],
                    171 + font, 1, 142, 140, -1);
        }
    }

    /** "its size, its design size (four each; as they are then)": at the first use, and at the end. */
    private void fontsAsTheyAreThen() {
        Run run = run("sizes as they are then").takes(x -> x.open(ROW)).takes(x -> x.character(2, 1, 0, 0, 0));
        run.takes(x -> x.close(0)).takes("behind the character", x -> x.font(2, Integer.MAX_VALUE, 0)).ships(0);
        run.bytes("at the first use", CONTENT + 1, 243, 2, 0, 0, 0, 0, 127, 255, 255, 255, 0, 0, 0, 0, 0, 1, 67);
        run.takes("behind the page", x -> x.font(2, 0, Integer.MAX_VALUE)).asks(Due::finish);
        run.bytes("at the end", CONTENT + 22 + 29, 243, 2, 0, 0, 0, 0, 0, 0, 0, 0, 127, 255, 255, 255, 0, 1, 67, 249);
        run.takes("behind the end", x -> x.font(2, 7, 7));
        run.bytes("the end is as it was", CONTENT + 22 + 29, 243, 2, 0, 0, 0, 0, 0, 0, 0, 0, 127, 255, 255, 255, 0);
    }

    /** "at each character of another font than the one before on this page, and at the first one of a page". */
    private void fontChoices() {
        Run run = run("font choices");
        for (int page = 0; page < 2; page++) {
            run.takes(x -> x.open(ROW)).takes(x -> x.character(0, 9, 0, 0, 0)).takes(x -> x.character(0, 8, 0, 0, 0));
            run.takes(x -> x.rule(1, 0, 1, 0)).takes(x -> x.character(0, 7, 0, 0, 0));
            run.takes(x -> x.character(31, 6, 0, 0, 0)).takes(x -> x.character(0, 5, 0, 0, 0));
            run.takes(x -> x.close(0)).ships(0);
        }
        int second = run.asks(x -> x.count(0)) - 24;
        run.bytes("the second page", second, 141, 171, 9, 8, 162, 1, 132, 0, 0, 0, 1, 0, 0, 0, 1, 167, 255, 7, 202, 6,
                171, 5, 142, 140, -1);
    }

    /** "A CHARACTER: its code below 128, else 128 and it". */
    private void codes() {
        Run run = run("codes").takes(x -> x.open(ROW));
        for (int code : new int[] {0, 127, 128, 255}) {
            run.takes(x -> x.character(0, code, 0, 0, 0));
        }
        run.takes(x -> x.close(0)).ships(0);
        run.bytes("codes", CONTENT + 1 + 17, 171, 0, 127, 128, 128, 128, 255, 142, 140, -1);
    }

    /** A page whose rule is not written; its base line is at 0. */
    private void noRule(boolean vertical, int width, int height, int depth) {
        Run run = run("a rule of " + width + ", " + height + " and " + depth).takes(x -> x.open(vertical));
        run.takes(x -> x.rule(width, height, depth, 0)).takes(x -> x.close(0)).ships(0);
        run.bytes("no rule", CONTENT, 141, 142, 140, -1);
    }

    /** "a rule, if height and depth together and width are above 0". */
    private void rulesInRows() {
        noRule(ROW, 1, 0, 0);
        noRule(ROW, 0, 0, 1);
        noRule(ROW, -1, 0, 1);
        noRule(ROW, 1, -1, 1);
        noRule(ROW, 1, -2, 1);
        noRule(ROW, 1, 0, -1);
        noRule(ROW, MOST, -MOST, MOST);
        Run run = run("the least rule in a row").takes(x -> x.open(ROW)).takes(x -> x.rule(1, -1, 2, 0));
        run.takes(x -> x.close(0)).ships(0);
        run.bytes("it", CONTENT, 141, 162, 2, 132, 0, 0, 0, 1, 0, 0, 0, 1, 142, 140, -1);
        Run most = run("the largest rule in a row").takes(x -> x.open(ROW)).takes(x -> x.rule(MOST, 0, MOST, 0));
        most.takes(x -> x.close(0)).ships(0);
        most.bytes("it", CONTENT, 141, 165, 63, 255, 255, 255, 132, 63, 255, 255, 255, 63, 255, 255, 255, 142, 140, -1);
    }

    private void rulesInColumns() {
        noRule(COLUMN, 1, 0, 0);
        noRule(COLUMN, 0, 0, 1);
        noRule(COLUMN, -1, 0, 1);
        noRule(COLUMN, -MOST, 0, MOST);
        Run run = run("the least rule in a column").takes(x -> x.open(COLUMN)).takes(x -> x.rule(1, 0, 1, 0));
        run.takes(x -> x.close(0)).ships(0);
        run.bytes("it", CONTENT, 141, 162, 1, 137, 0, 0, 0, 1, 0, 0, 0, 1, 142, 140, -1);
        Run zero = run("height and depth together 0").takes(x -> x.open(COLUMN)).takes(x -> x.rule(1, 5, -5, 0));
        zero.takes(x -> x.close(0)).ships(0).bytes("no rule", CONTENT, 162, 5, 141, 142, 140, -1);
    }

    /** "(running: of this box)": also where the box has 0 there, or its own number would be written or not. */
    private void runningRules() {
        Run row = run("running in a row").takes(x -> x.open(ROW)).takes(x -> x.rule(1, 9, 9, 6));
        row.takes(x -> x.close(0)).ships(0).bytes("0 in all", CONTENT, 141, 142, 140, -1);
        Run high = run("running height").takes(x -> x.open(ROW)).takes(x -> x.rule(3, -9, 0, 2));
        high.takes(x -> x.character(0, 1, 0, 2, 1)).takes(x -> x.close(0)).ships(0);
        high.bytes("the box's", CONTENT, 162, 2, 141, 132, 0, 0, 0, 2, 0, 0, 0, 3, 243);
        Run deep = run("running depth").takes(x -> x.open(ROW)).takes(x -> x.rule(3, 0, -9, 4));
        deep.takes(x -> x.character(0, 1, 0, 2, 1)).takes(x -> x.close(0)).ships(0);
        deep.bytes("the box's", CONTENT, 162, 2, 141, 167, 1, 132, 0, 0, 0, 1, 0, 0, 0, 3, 162, 255);
        Run none = run("running width 0").takes(x -> x.open(COLUMN)).takes(x -> x.rule(9, 0, 1, 1));
        none.takes(x -> x.close(0)).ships(0).bytes("no rule", CONTENT, 141, 142, 140, -1);
        Run wide = run("running width").takes(x -> x.open(COLUMN)).takes(x -> x.rule(-9, 0, 1, 1));
        wide.takes(x -> x.rule(7, 0, 0, 0)).takes(x -> x.close(0)).ships(0);
        wide.bytes("the box's", CONTENT, 162, 1, 141, 137, 0, 0, 0, 1, 0, 0, 0, 7, 142, 140, -1);
    }

    /** "a box inside, if it has items"; "Ahead of a box's own items (the page box's, too), if there are any". */
    private void boxesWithItems() {
        run("an empty page").spaces(0, 1).ships(0).bytes("nothing", CONTENT, 140, -1);
        run("a page with space").spaces(0, 2).ships(0).bytes("141", CONTENT, 141, 142, 140, -1);
        for (int i = 0; i < 2; i++) {
            boolean vertical = i == 1;
            Run empty = run("an empty box inside").spaces(1, 1).takes(x -> x.open(vertical));
            empty.takes(x -> x.put(1, 5, false)).takes(x -> x.close(0)).ships(0);
            empty.bytes("it is an item, but not written", CONTENT, 141, 142, 140, -1);
            Run full = run("a box with space inside").spaces(1, 2).takes(x -> x.open(vertical));
            full.takes(x -> x.put(1, 5, false)).takes(x -> x.close(0)).ships(0);
            full.bytes("it is written", CONTENT, 141, vertical ? 148 : 162, 5, 141, 142, 142, 140, -1);
        }
    }

    /** "1 .. 4 bytes, the fewest; down likewise": the last move of each length, and the first of the next. */
    private void movesOfEachLength() {
        int[] limits = {128, 32768, 8388608};
        for (int i = 0; i < 3; i++) {
            for (int longer = 0; longer <= 1; longer++) {
                moves(limits[i] - 1 + longer, i + 1 + longer);
                moves(-limits[i] - longer, i + 1 + longer);
            }
        }
        moves(1, 1);
        moves(-1, 1);
        moves(MOST, 4);
        moves(-MOST, 4);
    }

    /** This move as W, as X, as Y and as Z. */
    private void moves(int by, int length) {
        int[] number = new int[length];
        for (int i = 0; i < length; i++) {
            number[i] = by >> 8 * (length - 1 - i) & 255;
        }
        // The other move is towards the other side, so that both together are a SIZE.
        int other = by > 0 ? -2 : 2;
        Run across = run("a move by " + by).takes(x -> x.open(ROW));
        across.takes(x -> x.space(by)).takes(x -> x.character(0, 1, -by, 0, 0)).takes(x -> x.close(0)).ships(0);
        across.bytes("W", CONTENT + 1, 147 + length).bytes("W", CONTENT + 2, number);
        across.bytes("behind it", CONTENT + 2 + length, 243);
        Run second = run("a second move by " + by).takes(x -> x.open(ROW)).takes(x -> x.space(other));
        second.takes(x -> x.character(0, 1, -other, 0, 0)).takes(x -> x.space(by));
        second.takes(x -> x.character(0, 1, -by, 0, 0)).takes(x -> x.close(0)).ships(0);
        second.bytes("X", CONTENT + 22, 152 + length).bytes("X", CONTENT + 23, number);
        second.bytes("behind it", CONTENT + 23 + length, 1, 142, 140, -1);
        Run down = column(run("a move down by " + by).spaces(1, 2), by).ships(1);
        down.bytes("Y", CONTENT + 1, 161 + length).bytes("Y", CONTENT + 2, number);
        down.bytes("behind it", CONTENT + 2 + length, 141, 142, 142, 140, -1);
        Run secondDown = column(column(run("a second move down by " + by).spaces(1, 2), by), other).ships(1);
        secondDown.bytes("Z", CONTENT + 4, 166 + length).bytes("Z", CONTENT + 5, number);
        secondDown.bytes("behind it", CONTENT + 5 + length, 141, 142, 142, 142, 140, -1);
    }

    /** The box of register 1 comes into a column, so much below its top; the column's height is 0 in all. */
    private static Run column(Run run, int by) {
        run.takes(x -> x.open(COLUMN)).takes(x -> x.space(by)).takes(x -> x.put(1, 0, false));
        return run.takes(x -> x.space(-by)).takes(x -> x.close(1));
    }

    /** "if they are not 0". */
    private void movesThatAreZero() {
        Run run = run("moves by 0").spaces(1, 2).takes(x -> x.open(ROW)).takes(x -> x.space(5));
        run.takes(x -> x.space(-5)).takes(x -> x.put(1, 0, true)).takes(x -> x.space(0)).takes(x -> x.put(1, 0, true));
        run.takes(x -> x.rule(1, -1, 2, 0)).takes(x -> x.rule(1, 0, 2, 0)).takes(x -> x.put(1, 2, false));
        run.takes(x -> x.close(0)).ships(0);
        run.bytes("none but one down", CONTENT, 141, 141, 142, 141, 142, 162, 2, 132, 0, 0, 0, 1, 0, 0, 0, 1,
                132, 0, 0, 0, 2, 0, 0, 0, 1, 141, 142, 142, 140, -1);
    }

    /** "one that is W: 147, else one that is X: 152; another one becomes W or X, whichever .. longer ago". */
    private void movesThatAreKept() {
        Run run = run("moves that are kept").spaces(1, 2).takes(x -> x.open(ROW));
        for (int by : new int[] {5, 6, 5, 7, 5, 6, 6, 7, 5}) {
            run.takes(x -> x.space(by)).takes(x -> x.put(1, 0, true));
        }
        run.takes(x -> x.close(0)).ships(0);
        run.bytes("W and X", CONTENT, 141, 148, 5, 141, 142, 153, 6, 141, 142, 147, 141, 142, 153, 7, 141, 142,
                147, 141, 142, 153, 6, 141, 142, 152, 141, 142, 148, 7, 141, 142, 153, 5, 141, 142, 142, 140, -1);
        Run down = run("moves down that are kept").spaces(1, 2).takes(x -> x.open(COLUMN));
        for (int by : new int[] {5, 6, 5, 7, 5, 6, 6, 7, 5}) {
            down.takes(x -> x.space(by)).takes(x -> x.put(1, 0, true));
        }
        down.takes(x -> x.space(-52)).takes(x -> x.close(0)).ships(0);
        down.bytes("Y and Z", CONTENT, 141, 162, 5, 141, 142, 167, 6, 141, 142, 161, 141, 142, 167, 7, 141, 142,
                161, 141, 142, 167, 6, 141, 142, 166, 141, 142, 162, 7, 141, 142, 167, 5, 141, 142, 142, 140, -1);
    }

    /** "(at first W)", and "W, X, Y, Z are 0 at the beginning of a page": nothing of the page before is left. */
    private void movesAtFirst() {
        Run run = run("moves at first");
        for (int page = 0; page < 3; page++) {
            run.takes(x -> x.open(ROW)).takes(x -> x.space(5)).takes(x -> x.rule(1, 4, 0, 0));
            run.takes(x -> x.space(6)).takes(x -> x.rule(1, 4, 7, 0)).takes(x -> x.close(0)).ships(0);
            int from = run.asks(x -> x.count(0)) - 29;
            run.bytes("page " + page, from, 162, 4, 141, 148, 5, 132, 0, 0, 0, 4, 0, 0, 0, 1, 153, 6, 167, 7, 132,
                    0, 0, 0, 11, 0, 0, 0, 1, 142, 140);
        }
    }

    /** "they, and which was used longer ago, are saved at 141 and back at 142, with the place". */
    private void savedAndBack() {
        Run run = run("saved and back").spaces(1, 2);
        staircase(run, 1, 0, 9, 8, 7).takes(x -> x.close(2));
        staircase(run, 2, 24, 5, 6, 5, 6, 8, 5).takes(x -> x.close(0)).ships(0);
        int[] second = {153, 9, 167, 9, 141, 142, 148, 8, 162, 8, 141, 142, 153, 7, 167, 7, 141, 142, 142};
        int[] first = {148, 9, 162, 9, 141, 142, 153, 8, 167, 8, 141, 142, 148, 7, 162, 7, 141, 142, 142};
        int[] kept = {153, 9, 167, 9, 141, 142, 147, 161, 141, 142, 153, 7, 167, 7, 141, 142, 142};
        int[][] parts = {{141, 148, 5, 162, 5, 141}, second, {153, 6, 167, 6, 141}, first, {147, 161, 141}, second,
            {152, 166, 141}, first, {148, 8, 162, 8, 141}, kept, {153, 5, 167, 5, 141}, first, {142, 140, -1}};
        int place = CONTENT;
        for (int[] part : parts) {
            run.bytes("the boxes", place, part);
            place += part.length;
        }
    }

    /** A row of copies of the box of register k, each of them so much to the right of the one before, and below. */
    private static Run staircase(Run run, int k, int width, int... moves) {
        run.takes(x -> x.open(ROW)).takes(x -> x.space(width));
        int shift = 0;
        for (int by : moves) {
            shift += by;
            int below = shift;
            run.takes(x -> x.space(by - width)).takes(x -> x.put(k, below, true));
        }
        return run;
    }

    /** "Of a vertical one the items stand from its top down": by height and depth, not by width; space by its width. */
    private void fromTheTopDown() {
        Run run = run("from the top down").takes(x -> x.open(ROW)).takes(x -> x.character(0, 1, 50, 3, 4));
        run.takes(x -> x.close(1)).takes(x -> x.open(COLUMN)).takes(x -> x.put(1, 0, true)).takes(x -> x.space(20));
        run.takes(x -> x.put(1, 2, true)).takes(x -> x.rule(60, 1, 1, 0)).takes(x -> x.put(1, 0, false));
        run.takes(x -> x.close(0)).answers("height", 39, x -> x.size(0, 1)).ships(0);
        run.bytes("the first box", CONTENT, 162, 39, 141, 167, 220, 141, 243);
        run.bytes("the others", CONTENT + 6 + 17, 171, 1, 142, 148, 2, 162, 27, 141, 1, 142, 153, 254, 167, 6, 137,
                0, 0, 0, 2, 0, 0, 0, 60, 162, 3, 141, 1, 142, 142, 140, -1);
    }

    /** "only ahead of characters (there ahead of 243 and 171 + k, too) .., first right, then down". */
    private void aheadOfFonts() {
        Run run = run("moves ahead of fonts").spaces(1, 2).takes(x -> x.open(ROW)).takes(x -> x.put(1, 3, false));
        run.takes(x -> x.space(4)).takes(x -> x.character(0, 1, 0, 0, 0)).takes(x -> x.space(5));
        run.takes(x -> x.close(0)).ships(0);
        run.bytes("right, down, font", CONTENT, 141, 162, 3, 141, 142, 148, 4, 167, 253, 243, 0);
        run.bytes("no move at the end", CONTENT + 26, 171, 1, 142, 140, -1);
    }
}
