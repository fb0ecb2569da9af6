/** "A SIZE is from -1073741823 to 1073741823": of numbers that must be one, the last taken and the first refused. */
public final class EdgesOfSizesTest {
    private static final int MOST = 1073741823;
    private static final int[] SIZES = {MOST, -MOST, MOST - 1, 1 - MOST, 0, 1, -1};
    private static final int[] OTHERS = {MOST + 1, -MOST - 1, Integer.MAX_VALUE, Integer.MIN_VALUE};

    /** A call with a number that must be a SIZE. */
    private interface Sized {
        boolean on(PageFile x, int number);
    }

    private final Due due = new Due("EdgesOfSizesTest");

    public static void main(String[] args) {
        EdgesOfSizesTest test = new EdgesOfSizesTest();
        test.characters();
        test.rules();
        test.spaces();
        test.shifts();
        test.due.end();
    }

    /** Each call on an object of its own, so that no sum of a list is too large to be shown. */
    private void tried(String what, boolean vertical, Sized call) {
        for (int number : SIZES) {
            start(what, vertical).takes(what + " " + number, x -> call.on(x, number));
        }
        for (int number : OTHERS) {
            start(what, vertical).refuses(what + " " + number, x -> call.on(x, number)).unchanged();
        }
    }

    /** An object with a box of register 3 and a list that has an item. */
    private Run start(String what, boolean vertical) {
        Run run = new Run(due, what);
        run.takes(x -> x.open(false)).takes(x -> x.character(5, 66, 7, 8, 9)).takes(x -> x.close(3));
        return run.takes(x -> x.open(vertical)).takes(x -> x.rule(2, 3, 4, 0));
    }

    /** "False if .. one of the others is no SIZE". */
    private void characters() {
        tried("a character's width", false, (x, number) -> x.character(1, 2, number, 0, 0));
        tried("a character's height", false, (x, number) -> x.character(1, 2, 0, number, 0));
        tried("a character's depth", false, (x, number) -> x.character(1, 2, 0, 0, number));
    }

    /** "False if .. one of these is no SIZE"; a running one "must be a SIZE, too". */
    private void rules() {
        for (int i = 0; i < 2; i++) {
            boolean vertical = i == 1;
            tried("a rule's width", vertical, (x, number) -> x.rule(number, 0, 0, 0));
            tried("a rule's height", vertical, (x, number) -> x.rule(0, number, 0, 0));
            tried("a rule's depth", vertical, (x, number) -> x.rule(0, 0, number, 0));
        }
        tried("a running width", true, (x, number) -> x.rule(number, 0, 0, 1));
        for (int running = 2; running <= 6; running += 2) {
            int bits = running;
            tried("a width, running " + bits, false, (x, number) -> x.rule(number, 0, 0, bits));
            tried("a height, running " + bits, false, (x, number) -> x.rule(0, number, 0, bits));
            tried("a depth, running " + bits, false, (x, number) -> x.rule(0, 0, number, bits));
        }
    }

    /** "False if .. width is no SIZE". */
    private void spaces() {
        tried("a space in a row", false, PageFile::space);
        tried("a space in a column", true, PageFile::space);
    }

    /** "false if .. shift is no SIZE". */
    private void shifts() {
        for (int i = 0; i < 4; i++) {
            boolean copies = i % 2 == 1;
            tried("a shift", i / 2 == 1, (x, number) -> x.put(3, number, copies));
        }
    }
}
