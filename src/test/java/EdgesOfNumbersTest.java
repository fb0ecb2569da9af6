/** Fonts, codes, registers, lists and what else has a first and a last one: those that are there, and those beyond. */
public final class EdgesOfNumbersTest {
    private static final int LEAST = Integer.MIN_VALUE;
    private static final int GREATEST = Integer.MAX_VALUE;

    private final Due due = new Due("EdgesOfNumbersTest");

    public static void main(String[] args) {
        EdgesOfNumbersTest test = new EdgesOfNumbersTest();
        test.newObject();
        test.fonts();
        test.fontSizes();
        test.fontsOfCharacters();
        test.codes();
        test.charactersInRowsAlone();
        test.runningInColumns();
        test.runningInRows();
        test.registersOfClose();
        test.registersOfPut();
        test.registersOfShip();
        test.registersOfSize();
        test.lists();
        test.withoutAList();
        test.bytes();
        test.counts();
        test.due.end();
    }

    private Run run(String about) {
        return new Run(due, about);
    }

    /** A page with a character of each font is shown later, so that all their sizes are. */
    private static Run allFonts(Run run) {
        run.takes(x -> x.open(false));
        for (int k = 0; k < 32; k++) {
            int font = k;
            run.takes(x -> x.character(font, 1, 0, 0, 0));
        }
        return run.takes(x -> x.close(0));
    }

    /** "No list is open, all registers are void, the file is empty"; sizes of fonts are "0 at first". */
    private void newObject() {
        Run run = run("a new object");
        run.counts(0, 0).counts(1, 0).counts(2, 0).counts(3, 0).counts(4, 0);
        run.answers("byteAt(0)", -1, x -> x.byteAt(0));
        for (int k = 0; k < 8; k++) {
            int register = k;
            for (int what = 0; what < 3; what++) {
                int of = what;
                run.answers("size(" + k + ", " + what + ")", 0, x -> x.size(register, of));
            }
            run.fails("ship(" + k + ")", Due.ILLEGAL, x -> Due.ship(x, register));
        }
        run.takes(x -> x.open(false));
        for (int k = 0; k < 8; k++) {
            int register = k;
            run.refuses("put(" + k + ")", x -> x.put(register, 0, false));
            run.refuses("put(" + k + ") of a copy", x -> x.put(register, 0, true));
        }
        run.takes(x -> x.character(31, 0, 0, 0, 0)).takes(x -> x.close(0)).ships(0);
        run.bytes("sizes at first", 61, 243, 31, 0, 0, 0, 0, 0, 0, 0, 0, 0, 0, 0, 0, 0, 1, 70, 202, 0, 142, 140, -1);
        run.unchanged();
    }

    /** "FONTS 0 .. 31"; font: "false if there is no such font". */
    private void fonts() {
        Run run = run("a font");
        run.takes("0", x -> x.font(0, 3, 4)).takes("31", x -> x.font(31, 5, 6)).takes("1", x -> x.font(1, 7, 8));
        for (int k : new int[] {-1, 32, 33, 63, 64, -31, -32, 256, LEAST, GREATEST}) {
            run.refuses("" + k, x -> x.font(k, 1, 2));
        }
        allFonts(run).unchanged();
    }

    /** font: "false if .. one is below 0"; no other limit is told. */
    private void fontSizes() {
        Run run = run("a font's sizes");
        run.takes("0 and 0", x -> x.font(0, 0, 0)).takes("size 0", x -> x.font(1, 0, 9));
        run.takes("design 0", x -> x.font(2, 9, 0)).takes("the greatest", x -> x.font(3, GREATEST, GREATEST));
        run.takes("no SIZEs", x -> x.font(4, 1073741824, 1073741824));
        for (int k = 0; k < 5; k++) {
            int font = k;
            run.refuses("size -1", x -> x.font(font, -1, 2)).refuses("design -1", x -> x.font(font, 2, -1));
            run.refuses("both", x -> x.font(font, -1, -1)).refuses("the least size", x -> x.font(font, LEAST, 2));
            run.refuses("the least design", x -> x.font(font, 2, LEAST));
        }
        run.takes("0 in place of more", x -> x.font(3, 0, 0));
        allFonts(run).ships(0);
        run.bytes("those of font 4", 61 + 4 * 19, 243, 4, 0, 0, 0, 0, 64, 0, 0, 0, 64, 0, 0, 0, 0, 1, 69, 175, 1);
        run.bytes("those of font 3", 61 + 3 * 19, 243, 3, 0, 0, 0, 0, 0, 0, 0, 0, 0, 0, 0, 0, 0, 1, 68, 174, 1);
        run.unchanged();
    }

    /** character: false if "there is no such font". */
    private void fontsOfCharacters() {
        Run run = run("a character's font");
        run.takes(x -> x.open(false));
        run.takes("0", x -> x.character(0, 1, 1, 1, 1)).takes("31", x -> x.character(31, 1, 1, 1, 1));
        for (int k : new int[] {-1, 32, 63, 256, LEAST, GREATEST}) {
            run.refuses("" + k, x -> x.character(k, 1, 1, 1, 1));
        }
        run.counts(3, 2).unchanged();
    }

    /** "a code 0 .. 255"; character: false if there is no such code. */
    private void codes() {
        Run run = run("a code");
        run.takes(x -> x.open(false));
        run.takes("0", x -> x.character(1, 0, 1, 1, 1)).takes("255", x -> x.character(1, 255, 1, 1, 1));
        for (int k : new int[] {-1, 256, 257, 511, 512, -256, LEAST, GREATEST}) {
            run.refuses("" + k, x -> x.character(1, k, 1, 1, 1));
        }
        run.counts(3, 2).unchanged();
    }

    /** "a CHARACTER (in horizontal lists alone)": the innermost list matters, not those around it. */
    private void charactersInRowsAlone() {
        Run run = run("a character in lists");
        run.takes(x -> x.open(true)).refuses("in a column", x -> x.character(1, 1, 1, 1, 1));
        run.takes(x -> x.open(false)).takes("in a row in a column", x -> x.character(1, 1, 1, 1, 1));
        run.takes(x -> x.open(true)).refuses("in a column in a row", x -> x.character(1, 1, 1, 1, 1));
        run.takes(x -> x.close(0)).takes("in the row again", x -> x.character(1, 1, 1, 1, 1));
        run.takes(x -> x.close(0)).refuses("in the column again", x -> x.character(1, 1, 1, 1, 1));
        run.counts(3, 3).unchanged();
    }

    /** "the width in vertical lists"; rule: false if "running has other bits, or such as this list can't have". */
    private void runningInColumns() {
        Run run = run("running in a column");
        run.takes(x -> x.open(true)).takes("0", x -> x.rule(5, 6, 7, 0)).takes("1", x -> x.rule(5, 6, 7, 1));
        for (int bits : new int[] {2, 3, 4, 5, 6, 7, 8, 9, 16, 17, 257, -1, -2, 1 << 30, LEAST, LEAST + 1, GREATEST}) {
            run.refuses("" + bits, x -> x.rule(5, 6, 7, bits));
        }
        run.counts(3, 2).unchanged();
    }

    /** "height and depth in horizontal ones". */
    private void runningInRows() {
        Run run = run("running in a row");
        run.takes(x -> x.open(false)).takes("0", x -> x.rule(5, 6, 7, 0)).takes("2", x -> x.rule(5, 6, 7, 2));
        run.takes("4", x -> x.rule(5, 6, 7, 4)).takes("6", x -> x.rule(5, 6, 7, 6));
        for (int bits : new int[] {1, 3, 5, 7, 8, 10, 12, 14, 16, 262, -1, -2, 1 << 30, LEAST, LEAST + 6, GREATEST}) {
            run.refuses("" + bits, x -> x.rule(5, 6, 7, bits));
        }
        run.counts(3, 4).unchanged();
    }

    /** "REGISTERS 0 .. 7"; close: "false (the list is open still) if .. there is no such register". */
    private void registersOfClose() {
        Run run = run("close");
        for (int k = 0; k < 8; k++) {
            int register = k;
            run.takes(x -> x.open(false)).takes(x -> x.space(register + 1));
            run.takes("register " + k, x -> x.close(register));
        }
        run.takes(x -> x.open(true)).takes(x -> x.rule(5, 6, 7, 0));
        for (int k : new int[] {-1, 8, 9, 15, 16, -8, 256, LEAST, GREATEST}) {
            run.refuses("register " + k, x -> x.close(k));
        }
        run.counts(2, 1).counts(3, 17);
        for (int k = 0; k < 8; k++) {
            int register = k;
            run.answers("width of register " + k, k + 1, x -> x.size(register, 0));
        }
        run.unchanged();
    }

    /** put: "false if .. there is no such register, it is void". */
    private void registersOfPut() {
        Run run = run("put");
        run.spaces(0, 2).spaces(7, 3).spaces(4, 2);
        run.takes(x -> x.open(false)).takes(x -> x.put(4, 0, false));
        for (int k : new int[] {-1, 8, 9, 15, 16, -8, 256, LEAST, GREATEST, 1, 6, 4}) {
            run.refuses("register " + k, x -> x.put(k, 0, false));
            run.refuses("a copy of register " + k, x -> x.put(k, 0, true));
        }
        run.takes("a copy of register 0", x -> x.put(0, 0, true)).takes("register 0", x -> x.put(0, 0, false));
        run.takes("a copy of register 7", x -> x.put(7, 0, true)).takes("register 7", x -> x.put(7, 0, false));
        run.refuses("register 0 again", x -> x.put(0, 0, false)).refuses("its copy", x -> x.put(0, 0, true));
        run.refuses("register 7 again", x -> x.put(7, 0, false)).refuses("its copy", x -> x.put(7, 0, true));
        run.counts(3, 12).unchanged();
    }

    /** ship: "IllegalStateException if .. there is no such register, or it is void". */
    private void registersOfShip() {
        Run run = run("ship");
        run.spaces(0, 2).spaces(7, 3).spaces(4, 2);
        for (int k : new int[] {-1, 8, 9, 15, 16, -8, 256, LEAST, GREATEST, 1, 6}) {
            run.fails("register " + k + ", an empty file", Due.ILLEGAL, x -> Due.ship(x, k));
        }
        run.counts(0, 0).answers("register 0", 63, x -> Due.ship(x, 0)).answers("register 7", 111, x -> Due.ship(x, 7));
        for (int k : new int[] {-1, 8, 9, 15, 16, -8, 256, LEAST, GREATEST, 1, 6, 0, 7}) {
            run.fails("register " + k, Due.ILLEGAL, x -> Due.ship(x, k));
        }
        run.counts(0, 111).counts(1, 2).counts(3, 2).unchanged();
    }

    /** size: "0 if there is no such register or what, or it is void". */
    private void registersOfSize() {
        Run run = run("size");
        for (int k = 0; k < 8; k += 7) {
            int register = k;
            run.takes(x -> x.open(false)).takes(x -> x.character(1, 1, -5 - register, 6, 7));
            run.takes(x -> x.close(register));
            run.answers("width", -5 - k, x -> x.size(register, 0)).answers("height", 6, x -> x.size(register, 1));
            run.answers("depth", 7, x -> x.size(register, 2));
            for (int what : new int[] {-1, 3, 4, -2, 256, LEAST, GREATEST}) {
                run.answers("what " + what, 0, x -> x.size(register, what));
            }
        }
        for (int k : new int[] {-1, 8, 9, 15, 16, -8, 256, LEAST, GREATEST, 1, 6}) {
            for (int what = -1; what <= 3; what++) {
                int of = what;
                run.answers("size(" + k + ", " + what + ")", 0, x -> x.size(k, of));
            }
        }
        run.ships(7).answers("void again", 0, x -> x.size(7, 1));
    }

    /** "Up to 100 LISTS are open"; open: "false if 100 are open". */
    private void lists() {
        Run run = run("lists");
        for (int i = 1; i <= 100; i++) {
            boolean vertical = i % 3 == 0;
            run.takes("list " + i, x -> x.open(vertical));
        }
        run.counts(2, 100).refuses("a row more", x -> x.open(false)).refuses("a column more", x -> x.open(true));
        run.counts(2, 100).takes("a character in the 100th, a row", x -> x.character(1, 1, 5, 5, 5));
        run.takes(x -> x.close(1)).counts(2, 99).refuses("in the 99th, a column", x -> x.character(1, 1, 5, 5, 5));
        run.takes("the 100th again", x -> x.open(true)).refuses("and no more", x -> x.open(false));
        run.counts(3, 2).unchanged();
    }

    /** "False if no list is open"; close: "if none is open". */
    private void withoutAList() {
        Run run = run("no list is open");
        run.spaces(2, 2);
        run.refuses("a character", x -> x.character(1, 1, 1, 1, 1)).refuses("a rule", x -> x.rule(1, 1, 1, 0));
        run.refuses("a running one", x -> x.rule(1, 1, 1, 1)).refuses("space", x -> x.space(1));
        run.refuses("close", x -> x.close(2)).refuses("put", x -> x.put(2, 0, false));
        run.refuses("a copy", x -> x.put(2, 0, true)).counts(3, 2).counts(2, 0).unchanged();
    }

    /** byteAt: "NONE if there is none". */
    private void bytes() {
        Run run = run("byteAt");
        int[] others = {-1, -2, LEAST, GREATEST, 1 << 16, 255, 256, 257};
        for (int k : others) {
            run.answers("an empty file: " + k, -1, x -> x.byteAt(k));
        }
        run.answers("an empty file: 0", -1, x -> x.byteAt(0)).spaces(0, 1).ships(0);
        run.answers("the first", 247, x -> x.byteAt(0)).answers("the last", 140, x -> x.byteAt(60));
        run.answers("behind the last", -1, x -> x.byteAt(61)).answers("finish", 100, Due::finish);
        run.answers("the last", 223, x -> x.byteAt(99)).answers("behind the end", -1, x -> x.byteAt(100));
        for (int k : others) {
            run.answers("byteAt(" + k + ")", -1, x -> x.byteAt(k));
        }
    }

    /** count: "NONE for another what". */
    private void counts() {
        Run run = run("count");
        for (int i = 0; i < 2; i++) {
            for (int what : new int[] {-1, 5, 6, -5, 256, LEAST, GREATEST}) {
                run.answers("count(" + what + ")", -1, x -> x.count(what));
            }
            run.counts(4, i);
            if (i == 0) {
                run.answers("finish", 56, Due::finish);
            }
        }
    }
}
