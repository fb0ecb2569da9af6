/** Promise 4: character; and how characters stand in the file. */
public final class CharacterTest {
    public static void main(String[] args) {
        Due due = new Due("CharacterTest");
        refused(due);
        inTheFile(due);
        due.end();
    }

    private static void refused(Due due) {
        int most = Due.LARGEST;
        PageFile x = new PageFile();
        due.no("without a list", x.character(0, 0, 0, 0, 0));
        x.open(true);
        due.no("in a vertical list", x.character(0, 0, 0, 0, 0));
        x.open(false);
        due.yes("least font and code", x.character(0, 0, 0, 0, 0));
        due.yes("greatest font and code", x.character(31, 255, 0, 0, 0));
        due.no("font -1", x.character(-1, 0, 0, 0, 0));
        due.no("font 32", x.character(32, 0, 0, 0, 0));
        due.no("font at the least int", x.character(Integer.MIN_VALUE, 0, 0, 0, 0));
        due.no("code -1", x.character(0, -1, 0, 0, 0));
        due.no("code 256", x.character(0, 256, 0, 0, 0));
        due.yes("the largest SIZEs", x.character(0, 0, most, most, most));
        due.yes("the least SIZEs", x.character(0, 0, -most, -most, -most));
        due.no("width", x.character(0, 0, most + 1, 0, 0));
        due.no("height", x.character(0, 0, 0, most + 1, 0));
        due.no("depth", x.character(0, 0, 0, 0, most + 1));
        due.no("width below", x.character(0, 0, -most - 1, 0, 0));
        due.no("height below", x.character(0, 0, 0, -most - 1, 0));
        due.no("depth below", x.character(0, 0, 0, 0, -most - 1));
        due.no("the least int", x.character(0, 0, Integer.MIN_VALUE, 0, 0));
        due.same("items", x.count(3), 4);
        x.close(0);
        due.sizes("their box", x, 0, 0, most, most);
    }

    private static void inTheFile(Due due) {
        PageFile x = new PageFile();
        x.open(false);
        x.character(0, 0, 3, 0, 0);
        x.character(0, 127, 3, 0, 0);
        x.character(0, 128, 3, 0, 0);
        x.character(0, 255, -9, 0, 0);
        x.space(6);
        x.character(0, 1, 0, 0, 0);
        x.close(0);
        x.ship(0);
        due.bytes("characters", x, 79, 0, 127, 128, 128, 128, 255, 148, 6, 1, 142, 140, PageFile.NONE);
    }
}
