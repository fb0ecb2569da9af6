import java.util.ArrayList;
import java.util.List;

/** What the document says, done in the plainest way: copies are copied, boxes are written by recursion. */
final class Model {
    private static final long MOST = 1073741823L;

    /** A character, rule, space or box. */
    static final class Node {
        char kind;
        int font;
        int code;
        int running;
        boolean vertical;
        long width;
        long height;
        long depth;
        long shift;
        List<Node> list = new ArrayList<>();

        Node copy() {
            Node other = new Node();
            other.kind = kind;
            other.font = font;
            other.code = code;
            other.running = running;
            other.vertical = vertical;
            other.width = width;
            other.height = height;
            other.depth = depth;
            other.shift = shift;
            for (Node inside : list) {
                other.list.add(inside.copy());
            }
            return other;
        }

        int items() {
            int sum = 1;
            for (Node inside : list) {
                sum += inside.items();
            }
            return sum;
        }

        int nested() {
            int most = 0;
            for (Node inside : list) {
                most = Math.max(most, inside.nested());
            }
            return kind == 'b' ? most + 1 : most;
        }
    }

    /** A place or move that is no SIZE. */
    private static final class NoSize extends Exception {
        private static final long serialVersionUID = 1L;
    }

    final List<Node> open = new ArrayList<>();
    final Node[] registers = new Node[8];
    final int[][] fonts = new int[32][2];
    List<Integer> file = new ArrayList<>();
    List<Integer> fontsUsed = new ArrayList<>();
    int pages;
    int lastPage = -1;
    long tallest;
    long widest;
    int deepest;
    boolean ended;
    /** What is seen of all pages: characters and rules at their places, a page's number in front. */
    List<String> marks = new ArrayList<>();

    private int lastFont;
    private int pageDeepest;
    private long[] state;

    private static boolean sizes(long... numbers) {
        for (long number : numbers) {
            if (Math.abs(number) > MOST) {
                return false;
            }
        }
        return true;
    }

    private Node inner() {
        return open.isEmpty() ? null : open.get(open.size() - 1);
    }

    private static boolean in(int k, int limit) {
        return 0 <= k && k < limit;
    }

    int items() {
        int sum = 0;
        for (Node list : open) {
            sum += list.items() - 1;
        }
        for (Node box : registers) {
            sum += box == null ? 0 : box.items();
        }
        return sum;
    }

    boolean font(int k, int size, int design) {
        if (!in(k, 32) || size < 0 || design < 0) {
            return false;
        }
        fonts[k] = new int[] {size, design};
        return true;
    }

    boolean open(boolean vertical) {
        if (open.size() == 100) {
            return false;
        }
        Node list = new Node();
        list.kind = 'b';
        list.vertical = vertical;
        open.add(list);
        return true;
    }

    private boolean join(char kind, int width, int height, int depth, int more, int code) {
        if (inner() == null || !sizes(width, height, depth) || items() == 3000) {
            return false;
        }
        Node item = new Node();
        item.kind = kind;
        item.width = width;
        item.height = height;
        item.depth = depth;
        if (kind == 'r') {
            item.running = more;
        } else {
            item.font = more;
            item.code = code;
        }
        return inner().list.add(item);
    }

    boolean character(int font, int code, int width, int height, int depth) {
        return inner() != null && !inner().vertical && in(font, 32) && in(code, 256)
                && join('c', width, height, depth, font, code);
    }

    boolean rule(int width, int height, int depth, int running) {
        return inner() != null && (inner().vertical ? in(running, 2) : in(running, 8) && running % 2 == 0)
                && join('r', width, height, depth, running, 0);
    }

    boolean space(int width) {
        return join('s', width, 0, 0, 0, 0);
    }

    boolean close(int k) {
        if (inner() == null || !in(k, 8) || items() == 3000 || inner().nested() > 100) {
            return false;
        }
        Node box = inner().copy();
        box.width = 0;
        for (Node item : box.list) {
            boolean solid = item.kind != 's';
            if (box.vertical) {
                box.height += solid ? item.height + item.depth : item.width;
                if (solid && item.running != 1) {
                    box.width = Math.max(box.width, item.width + item.shift);
                }
                box.depth = solid ? item.depth : 0;
            } else {
                box.width += item.width;
                if (solid && (item.running & 2) == 0) {
                    box.height = Math.max(box.height, item.height - item.shift);
                }
                if (solid && (item.running & 4) == 0) {
                    box.depth = Math.max(box.depth, item.depth + item.shift);
                }
            }
        }
        if (box.vertical) {
            box.height -= box.depth;
        }
        if (!sizes(box.width, box.height, box.depth)) {
            return false;
        }
        open.remove(open.size() - 1);
        registers[k] = box;
        return true;
    }

    boolean put(int k, int shift, boolean copies) {
        if (inner() == null || !in(k, 8) || registers[k] == null || !sizes(shift)
                || copies && items() + registers[k].items() > 3000) {
            return false;
        }
        Node box = registers[k].copy();
        box.shift = shift;
        if (!copies) {
            registers[k] = null;
        }
        return inner().list.add(box);
    }

    int ship(int k) {
        if (ended || !in(k, 8) || registers[k] == null) {
            return Due.ILLEGAL;
        }
        if (file.size() >= 200000) {
            return Due.UNSUPPORTED;
        }
        Node page = registers[k];
        registers[k] = null;
        List<Integer> fileBefore = new ArrayList<>(file);
        List<Integer> fontsBefore = new ArrayList<>(fontsUsed);
        List<String> marksBefore = new ArrayList<>(marks);
        try {
            beginning();
            int place = file.size();
            write(139, 1);
            write(pages + 1, 4);
            for (int i = 0; i < 9; i++) {
                write(0, 4);
            }
            write(lastPage, 4);
            lastFont = -1;
            pageDeepest = 0;
            state = new long[8];
            marks.add("page " + (pages + 1));
            box(page, 0, page.height, 1);
            write(140, 1);
            pages++;
            lastPage = place;
        } catch (NoSize e) {
            file = fileBefore;
            fontsUsed = fontsBefore;
            marks = marksBefore;
            return Due.UNSUPPORTED;
        }
        deepest = Math.max(deepest, pageDeepest);
        tallest = Math.max(tallest, page.height + page.depth);
        widest = Math.max(widest, page.width);
        return file.size();
    }

    int finish() {
        if (ended) {
            return Due.ILLEGAL;
        }
        beginning();
        int place = file.size();
        write(248, 1);
        write(lastPage, 4);
        units();
        write(tallest, 4);
        write(widest, 4);
        write(deepest, 2);
        write(pages, 2);
        for (int k = 31; k >= 0; k--) {
            if (fontsUsed.contains(k)) {
                fontSizes(k);
            }
        }
        write(249, 1);
        write(place, 4);
        write(2, 1);
        write(0xdfdfdfdfL, 4);
        while (file.size() % 4 != 0) {
            write(223, 1);
        }
        ended = true;
        return file.size();
    }

    int byteAt(int k) {
        return in(k, file.size()) ? file.get(k) : -1;
    }

    int count(int what) {
        int[] counts = {file.size(), pages, open.size(), items(), ended ? 1 : 0};
        return in(what, 5) ? counts[what] : -1;
    }

    int size(int k, int what) {
        if (!in(k, 8) || !in(what, 3) || registers[k] == null) {
            return 0;
        }
        Node box = registers[k];
        return (int) (what == 0 ? box.width : what == 1 ? box.height : box.depth);
    }

    private void write(long number, int bytes) {
        for (int i = bytes; i > 0; i--) {
            file.add((int) Math.floorMod(Math.floorDiv(number, 1L << 8 * (i - 1)), 256L));
        }
    }

    private void units() {
        write(25400000, 4);
        write(473628672, 4);
        write(1000, 4);
    }

    private void beginning() {
        if (file.isEmpty()) {
            write(247, 1);
            write(2, 1);
            units();
            write(0, 1);
        }
    }

    private void fontSizes(int k) {
        write(243, 1);
        write(k, 1);
        write(0, 4);
        write(fonts[k][0], 4);
        write(fonts[k][1], 4);
        write(0, 1);
        write(1, 1);
        write(65 + k % 26, 1);
    }

    private static void check(long... numbers) throws NoSize {
        if (!sizes(numbers)) {
            throw new NoSize();
        }
    }

    private void box(Node box, long left, long base, int level) throws NoSize {
        check(left, base);
        if (box.vertical) {
            check(base - box.height);
        }
        if (box.list.isEmpty()) {
            return;
        }
        moves(left, base);
        write(141, 1);
        pageDeepest = Math.max(pageDeepest, level);
        long[] saved = state.clone();
        if (box.vertical) {
            column(box, left, base - box.height, level);
        } else {
            row(box, left, base, level);
        }
        write(142, 1);
        state = saved;
    }

    private void row(Node box, long left, long base, int level) throws NoSize {
        long right = left;
        for (Node item : box.list) {
            switch (item.kind) {
                case 'c':
                    character(item, right, base);
                    break;
                case 'r':
                    long height = (item.running & 2) != 0 ? box.height : item.height;
                    long depth = (item.running & 4) != 0 ? box.depth : item.depth;
                    rule(132, right, base + depth, height + depth, item.width);
                    break;
                case 'b':
                    box(item, right, base + item.shift, level + 1);
                    break;
                default:
                    break;
            }
            right += item.width;
            check(right);
        }
    }

    private void column(Node box, long left, long top, int level) throws NoSize {
        long lower = top;
        for (Node item : box.list) {
            switch (item.kind) {
                case 'r':
                    long width = item.running == 1 ? box.width : item.width;
                    long extent = item.height + item.depth;
                    rule(137, left, lower + extent, extent, width);
                    lower += extent;
                    break;
                case 'b':
                    box(item, left + item.shift, lower + item.height, level + 1);
                    lower += item.height + item.depth;
                    break;
                default:
                    lower += item.width;
                    break;
            }
            check(lower);
        }
    }

    private void character(Node item, long right, long base) throws NoSize {
        moves(right, base);
        if (!fontsUsed.contains(item.font)) {
            fontsUsed.add(item.font);
            fontSizes(item.font);
        }
        if (item.font != lastFont) {
            write(171 + item.font, 1);
            lastFont = item.font;
        }
        if (item.code >= 128) {
            write(128, 1);
        }
        write(item.code, 1);
        state[0] += item.width;
        marks.add("character " + item.font + " " + item.code + " at " + right + " " + base);
    }

    private void rule(int command, long right, long lower, long extent, long width) throws NoSize {
        check(lower, extent);
        if (extent <= 0 || width <= 0) {
            return;
        }
        moves(right, lower);
        write(command, 1);
        write(extent, 4);
        write(width, 4);
        if (command == 132) {
            state[0] += width;
        }
        marks.add("rule " + extent + " " + width + " at " + right + " " + lower);
    }

    /** The state: right, W, X, 1 if X is older; down, Y, Z, 1 if Z is older. */
    private void moves(long right, long lower) throws NoSize {
        move(right, 0, 147);
        move(lower, 4, 161);
    }

    private void move(long to, int at, int command) throws NoSize {
        long by = to - state[at];
        if (by == 0) {
            return;
        }
        check(by);
        state[at] = to;
        if (by == state[at + 1]) {
            write(command, 1);
            state[at + 3] = 1;
        } else if (by == state[at + 2]) {
            write(command + 5, 1);
            state[at + 3] = 0;
        } else {
            int older = state[at + 3] == 0 ? 0 : 1;
            int bytes = 1;
            while (by < -(1L << 8 * bytes - 1) || by >= 1L << 8 * bytes - 1) {
                bytes++;
            }
            write(command + 5 * older + bytes, 1);
            write(by, bytes);
            state[at + 1 + older] = by;
            state[at + 3] = 1 - older;
        }
    }
}
