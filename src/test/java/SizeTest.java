/** Promise 13: size. */
public final class SizeTest {
    public static void main(String[] args) {
        Due due = new Due("SizeTest");
        PageFile x = new PageFile();
        x.open(false);
        x.character(0, 0, -11, 12, 13);
        x.close(7);
        due.sizes("the box", x, 7, -11, 12, 13);
        for (int what : new int[] {-1, 3, Integer.MIN_VALUE, Integer.MAX_VALUE}) {
            due.same("size(7, " + what + ")", x.size(7, what), 0);
        }
        for (int k : new int[] {-1, 8, 15, Integer.MIN_VALUE, Integer.MAX_VALUE, 0}) {
            due.sizes("register " + k, x, k, 0, 0, 0);
        }
        x.open(false);
        x.put(7, 0, true);
        due.sizes("behind a copy", x, 7, -11, 12, 13);
        x.put(7, 0, false);
        due.sizes("void again", x, 7, 0, 0, 0);
        x.close(0);
        due.sizes("register 0", x, 0, -22, 12, 13);
        Due.ship(x, 0);
        due.sizes("shipped", x, 0, 0, 0, 0);
        due.end();
    }
}
