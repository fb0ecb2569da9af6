/** Promise 1: a new object. */
public final class NewObjectTest {
    public static void main(String[] args) {
        Due due = new Due("NewObjectTest");
        PageFile x = new PageFile();
        for (int what = 0; what <= 4; what++) {
            due.same("count(" + what + ")", x.count(what), 0);
        }
        due.same("byteAt(0)", x.byteAt(0), PageFile.NONE);
        for (int k = 0; k <= 7; k++) {
            due.sizes("register " + k, x, k, 0, 0, 0);
            due.same("ship(" + k + ")", Due.ship(x, k), Due.ILLEGAL);
        }
        due.no("space(0) without a list", x.space(0));
        due.no("close(0) without a list", x.close(0));
        x.open(false);
        for (int k = 0; k <= 7; k++) {
            due.no("put(" + k + ") of a void register", x.put(k, 0, true));
        }
        PageFile other = new PageFile();
        due.same("another object's lists", other.count(2), 0);
        due.end();
    }
}
