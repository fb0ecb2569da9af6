/** Promise 9: "UnsupportedOperationException if the file has 200000 bytes or more (nothing is changed then)". */
public final class FullFileTest {
    private static final int FULL = 200000;
    private static final int MOST = 1073741823;
    private static final int PAGE = 46;
    private static final int BOX = 2;
    private static final int RULE = 9;

    private final Due due = new Due("FullFileTest");

    public static void main(String[] args) {
        FullFileTest test = new FullFileTest();
        test.lastThatIsTaken();
        test.firstThatIsRefused();
        test.farBeyond();
        test.cutBack();
        test.whichException();
        test.due.end();
    }

    /** A page of copies of the box of register k. */
    private static void page(Run run, int k) {
        run.takes(x -> x.open(false)).takes(x -> x.put(k, 0, true)).takes(x -> x.close(0)).ships(0);
    }

    /** A file of so many bytes in some 300 calls: pages of 640 rules, then of half as many, and so on. */
    private Run file(String about, int length) {
        Run run = new Run(due, about);
        run.takes(x -> x.open(false)).takes(x -> x.character(0, 1, 0, 0, 0)).takes(x -> x.close(0)).ships(0);
        run.takes(x -> x.open(false));
        for (int i = 0; i < 40; i++) {
            run.takes(x -> x.rule(1, 1, 0, 0));
        }
        run.takes(x -> x.close(3));
        for (int k = 4; k < 8; k++) {
            int to = k;
            run.takes(x -> x.open(false)).takes(x -> x.put(to - 1, 0, true)).takes(x -> x.put(to - 1, 0, true));
            run.takes(x -> x.close(to));
        }
        int have = run.asks(x -> x.count(0));
        for (int k = 7; k >= 3; k--) {
            page(run, k);
            int with = run.asks(x -> x.count(0));
            int cost = with - have;
            have = with;
            // Of each smaller page there comes one at least, and then the last one.
            int reserved = k == 3 ? 200 : cost + 800;
            for (; have + cost + reserved < length; have += cost) {
                page(run, k);
            }
        }
        return lastPage(run, length - have);
    }

    /** A page of so many bytes: rules, and characters of a byte each. */
    private static Run lastPage(Run run, int bytes) {
        int moveAndFont = 3;
        int rest = bytes - PAGE - BOX - moveAndFont;
        run.takes(x -> x.open(false));
        // Without a character the font would not be chosen, and the page would be a byte shorter.
        int characters = 1 + (rest - 1) % RULE;
        for (int i = 0; i < characters; i++) {
            run.takes(x -> x.character(0, 1, 0, 0, 0));
        }
        for (int i = 0; i < (rest - characters) / RULE; i++) {
            run.takes(x -> x.rule(1, 1, 0, 0));
        }
        return run.takes(x -> x.close(0)).ships(0);
    }

    private void lastThatIsTaken() {
        Run run = file("at 199999", FULL - 1).counts(0, FULL - 1);
        run.spaces(0, 1).answers("a page", FULL - 1 + PAGE, x -> Due.ship(x, 0)).counts(0, FULL - 1 + PAGE);
        run.spaces(0, 1).fails("a page more", Due.UNSUPPORTED, x -> Due.ship(x, 0)).counts(3, 1298).unchanged();
    }

    private void firstThatIsRefused() {
        Run run = file("at 200000", FULL).counts(0, FULL);
        int pages = run.asks(x -> x.count(1));
        run.takes(x -> x.open(false)).takes(x -> x.character(9, 1, 2, 3, 4)).takes(x -> x.close(0));
        int items = run.asks(x -> x.count(3));
        for (int i = 0; i < 2; i++) {
            run.fails("ship", Due.UNSUPPORTED, x -> Due.ship(x, 0));
            run.fails("ship of rules", Due.UNSUPPORTED, x -> Due.ship(x, 7));
            run.counts(0, FULL).counts(1, pages).counts(3, items).answers("height", 3, x -> x.size(0, 1));
        }
        run.unchanged();
        run.takes("the register has its box still", x -> x.open(false)).takes(x -> x.put(0, 0, false));
        run.answers("the end, without the font", FULL + 29 + 17 + 6 + 4, Due::finish).unchanged();
    }

    /** A page may bring the file far beyond: what counts is what it has when ship is called. */
    private void farBeyond() {
        Run run = file("a large page", FULL - 2);
        run.takes(x -> x.open(false)).takes(x -> x.put(7, 0, false)).takes(x -> x.close(0)).ships(0);
        run.answers("beyond", 1, x -> x.count(0) > FULL + 5000 ? 1 : 0);
        run.spaces(0, 1).fails("ship", Due.UNSUPPORTED, x -> Due.ship(x, 0)).unchanged();
    }

    /** A page that can't be written for its places leaves the file as it was: a small one can come still. */
    private void cutBack() {
        Run run = file("cut back", FULL - 1);
        run.takesInVain(x -> x.open(false)).takesInVain(x -> x.put(7, 0, true)).takesInVain(x -> x.space(MOST));
        run.takesInVain(x -> x.space(-MOST)).takesInVain(x -> x.close(0));
        run.fails("ship", Due.UNSUPPORTED, x -> Due.ship(x, 0)).counts(0, FULL - 1).unchanged();
        run.spaces(0, 1).answers("a page", FULL - 1 + PAGE, x -> Due.ship(x, 0));
    }

    /** Where both exceptions have a cause, it is the one that is named first. */
    private void whichException() {
        Run run = file("which exception", FULL);
        run.fails("a void register", Due.ILLEGAL, x -> Due.ship(x, 1));
        run.fails("no register", Due.ILLEGAL, x -> Due.ship(x, 8)).fails("none", Due.ILLEGAL, x -> Due.ship(x, -1));
        run.answers("finish", FULL + 29 + 17 + 6 + 4, Due::finish);
        run.fails("behind the end", Due.ILLEGAL, x -> Due.ship(x, 7)).unchanged();
    }
}
