/** Promise 5: rule; and how rules stand in the file. */
public final class RuleTest {
    private static final int CONTENT = 60;

    public static void main(String[] args) {
        Due due = new Due("RuleTest");
        refused(due);
        running(due);
        measures(due);
        inRows(due);
        inColumns(due);
        due.end();
    }

    private static void refused(Due due) {
        int most = Due.LARGEST;
        PageFile x = new PageFile();
        due.no("without a list", x.rule(1, 1, 1, 0));
        for (int vertical = 0; vertical < 2; vertical++) {
            x.open(vertical == 1);
            due.no("width", x.rule(most + 1, 0, 0, 0));
            due.no("height", x.rule(0, most + 1, 0, 0));
            due.no("depth", x.rule(0, 0, most + 1, 0));
            due.no("width below", x.rule(-most - 1, 0, 0, 0));
            due.no("height below", x.rule(0, -most - 1, 0, 0));
            due.no("depth below", x.rule(0, 0, -most - 1, 0));
            due.yes("the largest SIZEs", x.rule(most, most, most, 0));
            due.yes("the least SIZEs", x.rule(-most, -most, -most, 0));
        }
        due.no("a running width that is no SIZE", x.rule(most + 1, 0, 0, 1));
        x.open(false);
        due.no("a running height that is no SIZE", x.rule(0, most + 1, 0, 2));
        due.no("a running depth that is no SIZE", x.rule(0, 0, -most - 1, 4));
    }

    private static void running(Due due) {
        PageFile x = new PageFile();
        int[] others = {8, 16, -1, Integer.MIN_VALUE, Integer.MAX_VALUE, 1 << 30, 9, 14};
        x.open(true);
        for (int running = 0; running < 8; running++) {
            due.same("vertical, running " + running, x.rule(1, 1, 1, running) ? 1 : 0, running <= 1 ? 1 : 0);
        }
        for (int running : others) {
            due.no("vertical, running " + running, x.rule(1, 1, 1, running));
        }
        x.open(false);
        for (int running = 0; running < 8; running++) {
            due.same("horizontal, running " + running, x.rule(1, 1, 1, running) ? 1 : 0, running % 2 == 0 ? 1 : 0);
        }
        for (int running : others) {
            due.no("horizontal, running " + running, x.rule(1, 1, 1, running));
        }
        due.same("items", x.count(3), 6);
    }

    private static void measures(Due due) {
        PageFile x = new PageFile();
        x.open(false);
        x.rule(10, 50, 60, 6);
        x.rule(20, 3, 70, 4);
        x.rule(30, 80, 4, 2);
        x.close(0);
        due.sizes("running ones do not count in a row", x, 0, 60, 3, 4);
        x.open(true);
        x.rule(90, 1, 2, 1);
        x.rule(7, 4, 5, 0);
        x.rule(99, 8, 9, 1);
        x.close(0);
        due.sizes("nor in a column", x, 0, 7, 20, 9);
        x.open(false);
        x.rule(2, 5, 6, 6);
        x.close(0);
        due.sizes("alone in a row", x, 0, 2, 0, 0);
        x.open(true);
        x.rule(2, 5, 6, 1);
        x.close(0);
        due.sizes("alone in a column", x, 0, 0, 5, 6);
    }

    private static void inRows(Due due) {
        PageFile x = new PageFile();
        x.open(false);
        x.rule(4, 5, -2, 0);
        x.rule(4, 5, -5, 0);
        x.rule(0, 5, 5, 0);
        x.rule(-4, 5, 5, 0);
        x.rule(300, -1, 3, 0);
        x.rule(1, 0, 0, 6);
        x.rule(1, 1, 0, 4);
        x.rule(1, 0, -4, 2);
        x.close(0);
        due.sizes("the row", x, 0, 307, 5, 5);
        x.ship(0);
        due.bytes("rules in a row", x, CONTENT, 162, 5, 141,
                167, 254, 132, 0, 0, 0, 3, 0, 0, 0, 4,
                161, 132, 0, 0, 0, 2, 0, 0, 1, 44,
                167, 2, 132, 0, 0, 0, 10, 0, 0, 0, 1,
                132, 0, 0, 0, 6, 0, 0, 0, 1,
                162, 247, 132, 0, 0, 0, 1, 0, 0, 0, 1, 142, 140, PageFile.NONE);
    }

    private static void inColumns(Due due) {
        PageFile x = new PageFile();
        x.open(true);
        x.rule(0, 2, 1, 1);
        x.rule(6, 0, 0, 0);
        x.rule(6, -2, 5, 0);
        x.rule(-6, 2, 2, 0);
        x.rule(3, 3, -2, 0);
        x.close(0);
        due.sizes("the column", x, 0, 6, 13, -2);
        x.ship(0);
        due.bytes("rules in a column", x, CONTENT, 162, 13, 141,
                167, 246, 137, 0, 0, 0, 3, 0, 0, 0, 6,
                162, 3, 137, 0, 0, 0, 3, 0, 0, 0, 6,
                167, 5, 137, 0, 0, 0, 1, 0, 0, 0, 3, 142, 140, PageFile.NONE);
    }
}
