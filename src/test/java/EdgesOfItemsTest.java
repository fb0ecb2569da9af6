/** "There are at most 3000 items, boxes made and those in registers counted, too", and 100 boxes inside one another. */
public final class EdgesOfItemsTest {
    private final Due due = new Due("EdgesOfItemsTest");

    public static void main(String[] args) {
        EdgesOfItemsTest test = new EdgesOfItemsTest();
        test.whatCounts();
        test.characters();
        test.rules();
        test.spaces();
        test.boxes();
        test.boxesInPlaceOfOthers();
        test.copies();
        test.copiesOfOneItem();
        test.boxesThatAreNoCopies();
        test.whatGivesRoom();
        test.insideOneAnother();
        test.insideOneAnotherBesideOthers();
        test.insideOneAnotherInLists();
        test.due.end();
    }

    private Run run(String about) {
        return new Run(due, about);
    }

    /** Items of open lists, boxes made and all in them; not the lists themselves. */
    private void whatCounts() {
        Run run = run("what counts");
        run.takes(x -> x.open(true)).takes(x -> x.open(false)).counts(3, 0);
        run.takes(x -> x.space(1)).takes(x -> x.rule(1, 1, 1, 0)).takes(x -> x.character(1, 1, 1, 1, 1)).counts(3, 3);
        run.takes(x -> x.close(0)).counts(3, 4);
        run.takes(x -> x.space(1)).counts(3, 5);
        run.takes("a copy, with all in it", x -> x.put(0, 0, true)).counts(3, 9);
        run.takes("the box itself", x -> x.put(0, 0, false)).counts(3, 9);
        run.takes(x -> x.close(0)).counts(3, 10);
        run.takes(x -> x.open(true)).takes("in place of it", x -> x.close(0)).counts(3, 1);
        run.takes(x -> x.open(true)).takes("in another register", x -> x.close(1)).counts(3, 2);
        run.ships(0).counts(3, 1).ships(1).counts(3, 0);
    }

    private void characters() {
        Run run = run("characters").fill(2999);
        run.takes("the 3000th", x -> x.character(1, 1, 1, 1, 1)).counts(3, 3000);
        run.refuses("the 3001st", x -> x.character(1, 1, 1, 1, 1)).counts(3, 3000).unchanged();
    }

    private void rules() {
        Run run = run("rules").fill(2999);
        run.takes("the 3000th", x -> x.rule(1, 1, 1, 0)).counts(3, 3000);
        run.refuses("the 3001st", x -> x.rule(1, 1, 1, 0)).refuses("a running one", x -> x.rule(1, 1, 1, 6));
        run.takes(x -> x.open(true)).refuses("in another list", x -> x.rule(1, 1, 1, 1)).counts(3, 3000).unchanged();
    }

    private void spaces() {
        Run run = run("spaces").fill(2999);
        run.takes("the 3000th", x -> x.space(1)).counts(3, 3000);
        run.refuses("the 3001st", x -> x.space(1)).refuses("of no width", x -> x.space(0));
        run.takes(x -> x.open(true)).refuses("in another list", x -> x.space(1)).counts(3, 3000).unchanged();
    }

    /** close: "false (the list is open still) if .. there are 3000 items". */
    private void boxes() {
        Run last = run("the last box").fill(2999);
        last.takes("the 3000th item", x -> x.close(0)).counts(3, 3000).counts(2, 0);
        last.takes("a list is no item", x -> x.open(true)).counts(3, 3000);
        last.refuses("an empty list", x -> x.close(1)).counts(2, 1).unchanged();
        Run none = run("no box more").fill(3000);
        none.refuses("in a void register", x -> x.close(0)).counts(2, 1).counts(3, 3000).unchanged();
    }

    /** The same where the box would come "in place of what was there": there are 3000 items when close is called. */
    private void boxesInPlaceOfOthers() {
        Run run = run("in place of another").fill(3000);
        run.refuses("at 3000", x -> x.close(6)).counts(2, 1).counts(3, 3000);
        run.answers("the other is there still", 1, x -> x.put(6, 0, false) ? 1 : 0);
        run.refuses("at 3000 still", x -> x.close(7)).counts(2, 1).unchanged();
        Run fewer = run("in place of another, one item less").fill(2999);
        fewer.takes("at 2999", x -> x.close(6)).counts(3, 3000 - 103).counts(2, 0);
    }

    /** put: false if "a copy (with all in it) would make more than 3000 items". */
    private void copies() {
        Run just = run("a copy that makes 3000").spaces(0, 5).fill(2995);
        just.takes("it", x -> x.put(0, 0, true)).counts(3, 3000);
        just.refuses("a copy more", x -> x.put(0, 0, true)).counts(3, 3000).unchanged();
        Run more = run("a copy that would make 3001").spaces(0, 5).fill(2996);
        more.refuses("it", x -> x.put(0, 0, true)).counts(3, 2996);
        more.refuses("a larger one", x -> x.put(6, 0, true)).counts(3, 2996);
        more.takes("space for 2997", x -> x.space(0)).refuses("it", x -> x.put(0, 0, true)).counts(3, 2997).unchanged();
    }

    /** A copy of an empty box is one item. */
    private void copiesOfOneItem() {
        Run run = run("copies of an empty box").spaces(0, 1).fill(2999);
        run.takes("it makes 3000", x -> x.put(0, 0, true)).counts(3, 3000);
        run.refuses("it would make 3001", x -> x.put(0, 0, true)).counts(3, 3000).unchanged();
    }

    /** What does not copy makes no item more, whatever the number is. */
    private void boxesThatAreNoCopies() {
        Run run = run("boxes that are no copies").spaces(0, 5).spaces(1, 1).fill(3000);
        run.takes("a box", x -> x.put(0, 0, false)).counts(3, 3000).takes("an empty one", x -> x.put(1, 0, false));
        run.counts(3, 3000).refuses("it is void now", x -> x.put(0, 0, false)).takes("a list", x -> x.open(true));
        run.takes("a large one", x -> x.put(6, 0, false)).counts(3, 3000).unchanged();
    }

    /** A page that was written, or could not be, and a box that was replaced are no items any more. */
    private void whatGivesRoom() {
        Run run = run("what gives room").spaces(0, 3).spaces(1, 4).fill(3000);
        run.ships(0).counts(3, 2997).takes("space", x -> x.space(0)).takes("space", x -> x.space(0));
        run.takes("in place of register 1", x -> x.close(1)).counts(3, 2996);
        run.takes(x -> x.open(false)).takes(x -> x.put(1, 0, false)).takes(x -> x.space(1073741823));
        run.takes("space that is too much on a page", x -> x.space(1)).takes(x -> x.space(-2)).counts(3, 2999);
        run.takes(x -> x.close(0)).counts(3, 3000).refuses("a copy", x -> x.put(7, 0, true));
        run.answers("a page that can't be", Due.UNSUPPORTED, x -> Due.ship(x, 0)).counts(3, 115);
        run.takes(x -> x.open(true)).takes("space", x -> x.space(0)).counts(3, 116);
    }

    /** So many boxes inside one another, in register 0. */
    private Run nested(String about, int boxes) {
        Run run = run(about).spaces(0, 2);
        for (int i = 2; i <= boxes; i++) {
            boolean vertical = i % 2 == 0;
            run.takes(x -> x.open(vertical)).takes(x -> x.put(0, 0, false)).takes(i + " boxes", x -> x.close(0));
        }
        return run;
    }

    /** close: "false (the list is open still) if .. 100 boxes are inside one another in it". */
    private void insideOneAnother() {
        Run taken = nested("99 in it", 99);
        taken.takes(x -> x.open(false)).takes(x -> x.put(0, 0, false)).takes("close", x -> x.close(0));
        taken.counts(2, 0).counts(3, 101).answers("ship", 15 + 46 + 200, x -> Due.ship(x, 0));
        for (int i = 0; i < 2; i++) {
            boolean vertical = i == 1;
            Run refused = nested("100 in it", 100);
            refused.takes(x -> x.open(vertical)).takes(x -> x.put(0, 0, false)).refuses("close", x -> x.close(0));
            refused.refuses("in another register", x -> x.close(5)).counts(2, 1).counts(3, 101);
            refused.takes("it can go on", x -> x.space(5)).refuses("close", x -> x.close(0)).unchanged();
        }
    }

    /** Boxes beside one another are not inside one another: the deepest of them matters, wherever it stands. */
    private void insideOneAnotherBesideOthers() {
        Run run = nested("100 among others", 99);
        run.spaces(1, 3).takes(x -> x.open(false)).takes(x -> x.put(1, 0, true)).takes(x -> x.put(0, 0, true));
        run.takes(x -> x.put(0, 0, true)).takes(x -> x.put(1, 0, true)).takes("99 twice", x -> x.close(2));
        run.takes(x -> x.open(true)).takes(x -> x.put(1, 0, true)).takes(x -> x.put(2, 0, true));
        run.takes(x -> x.put(1, 0, true)).refuses("100 in the middle", x -> x.close(3)).counts(2, 1).unchanged();
    }

    /** A list around it can become a box all the same, once it is the innermost one; lists are no boxes. */
    private void insideOneAnotherInLists() {
        Run run = nested("lists around", 99);
        for (int i = 0; i < 40; i++) {
            run.takes(x -> x.open(false));
        }
        run.takes(x -> x.put(0, 0, false)).takes("99 in the innermost of 40 lists", x -> x.close(0));
        run.takes("the list around it, without it", x -> x.close(1)).counts(2, 38);
        run.takes("put it there", x -> x.put(0, 0, false)).refuses("100 in it", x -> x.close(2)).counts(2, 38);
        run.unchanged();
    }
}
