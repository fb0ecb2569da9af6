/** The example of README.md answers what README.md says. */
public final class ReadmeTest {
    public static void main(String[] args) {
        Due due = new Due("ReadmeTest");
        example(due);
        due.end();
    }

    private static void example(Due due) {
        PageFile x = new PageFile();
        due.yes("font", x.font(0, 655360, 655360));
        due.yes("open a row", x.open(false));
        due.yes("H", x.character(0, 72, 500, 700, 0));
        due.yes("space", x.space(100));
        due.yes("i", x.character(0, 105, 300, 600, 20));
        due.yes("close the row", x.close(0));
        due.sizes("the row", x, 0, 900, 700, 20);
        due.yes("open a column", x.open(true));
        due.yes("put the row", x.put(0, 50, false));
        due.sizes("register 0 is void", x, 0, 0, 0, 0);
        due.yes("rule", x.rule(0, 4, 0, 1));
        due.yes("close the column", x.close(1));
        due.sizes("the column", x, 1, 950, 724, 0);
        due.same("ship", Due.ship(x, 1), 107);
        due.bytes("the page", x, 60, 163, 2, 212, 141,
                148, 50, 167, 232, 141, 243, 0, 0, 0, 0, 0, 0, 10, 0, 0, 0, 10, 0, 0, 0, 1, 65,
                171, 72, 153, 100, 105, 142,
                153, 206, 162, 24, 137, 0, 0, 0, 4, 0, 0, 3, 182, 142, 140, PageFile.NONE);
        due.same("finish", Due.finish(x), 164);
        due.same("the last byte", x.byteAt(163), 223);
        due.same("behind it", x.byteAt(164), PageFile.NONE);
    }
}
