/** Promise 6: space. */
public final class SpaceTest {
    public static void main(String[] args) {
        Due due = new Due("SpaceTest");
        int most = Due.LARGEST;
        PageFile x = new PageFile();
        due.no("without a list", x.space(1));
        x.open(false);
        due.yes("the largest", x.space(most));
        due.yes("the least", x.space(-most));
        due.no("above", x.space(most + 1));
        due.no("below", x.space(-most - 1));
        due.no("the largest int", x.space(Integer.MAX_VALUE));
        due.no("the least int", x.space(Integer.MIN_VALUE));
        due.yes("none", x.space(0));
        due.yes("some", x.space(-7));
        due.same("items", x.count(3), 4);
        x.close(0);
        due.sizes("in a row", x, 0, -7, 0, 0);
        x.open(true);
        x.rule(1, 2, 3, 0);
        x.space(40);
        x.close(0);
        due.sizes("in a column", x, 0, 1, 45, 0);
        x.open(true);
        x.space(-40);
        x.close(0);
        due.sizes("alone in a column", x, 0, 0, -40, 0);
        due.end();
    }
}
