/** Promise 11: byteAt. */
public final class ByteAtTest {
    public static void main(String[] args) {
        Due due = new Due("ByteAtTest");
        PageFile x = new PageFile();
        due.same("an empty file", x.byteAt(0), -1);
        due.same("ahead of it", x.byteAt(-1), -1);
        x.open(false);
        x.close(0);
        x.ship(0);
        due.bytes("the beginning and an empty page", x, 0, 247, 2, 1, 131, 146, 192, 28, 59, 0, 0, 0, 0, 3, 232, 0,
                139, 0, 0, 0, 1, 0, 0, 0, 0, 0, 0, 0, 0, 0, 0, 0, 0, 0, 0, 0, 0, 0, 0, 0, 0, 0, 0, 0, 0, 0, 0, 0, 0, 0,
                0, 0, 0, 0, 0, 0, 0, 255, 255, 255, 255, 140, -1, -1);
        due.same("byteAt(-1)", x.byteAt(-1), -1);
        due.same("the least int", x.byteAt(Integer.MIN_VALUE), -1);
        due.same("the largest int", x.byteAt(Integer.MAX_VALUE), -1);
        due.same("behind the end, inside what is reserved", x.byteAt(200), -1);
        due.end();
    }
}
