import java.util.Arrays;

/**
 * Boxes written as pages of a file: characters, rules and boxes inside one another by moves that are kept and used
 * again, with fonts, a beginning and an end.
 */
public final class PageFile {
    /** None. */
    public static final int NONE = -1;

    private static final int LARGEST_SIZE = 1073741823;
    private static final int MOST_LISTS = 100;
    private static final int MOST_NESTED = 100;
    private static final int MOST_ITEMS = 3000;
    private static final int REGISTERS = 8;
    private static final int FONTS = 32;
    private static final int CODES = 256;
    private static final int FULL_FILE = 200000;

    // Every item is met once and every box is left once, so a page never takes as many steps as this.
    private static final int MOST_STEPS = 4 * MOST_ITEMS;

    private static final int RUNNING_WIDTH = 1;
    private static final int RUNNING_HEIGHT = 2;
    private static final int RUNNING_DEPTH = 4;

    private static final int KIND_CHARACTER = 0;
    private static final int KIND_RULE = 1;
    private static final int KIND_SPACE = 2;
    private static final int KIND_BOX = 3;

    private static final int FIRST_LONG_CODE = 128;
    private static final int LONG_CHARACTER = 128;
    private static final int RULE_THAT_MOVES = 132;
    private static final int RULE_THAT_STAYS = 137;
    private static final int PAGE_BEGIN = 139;
    private static final int PAGE_END = 140;
    private static final int BOX_BEGIN = 141;
    private static final int BOX_END = 142;
    private static final int MOVE_RIGHT = 147;
    private static final int MOVE_DOWN = 161;
    private static final int SECOND_MOVE = 5;
    private static final int FONT_CHOICE = 171;
    private static final int FILLING = 223;
    private static final int FONT_SIZES = 243;
    private static final int FILE_BEGIN = 247;
    private static final int FILE_END = 248;
    private static final int FILE_VERY_END = 249;
    private static final int FORMAT = 2;
    private static final int UNIT_OVER = 25400000;
    private static final int UNIT_UNDER = 473628672;
    private static final int MAGNIFICATION = 1000;

    private final Box[] registers = new Box[REGISTERS];
    private final PageWriter writer = new PageWriter();
    private final Bytes out = writer.out;
    private final Fonts fonts = writer.fonts;
    private OpenList innermost;
    private int items;
    private int pages;
    private int lastPage = NONE;
    private int tallest;
    private int widest;
    private int deepest;
    private boolean ended;

    /** No list is open, all registers are void, the file is empty. */
    public PageFile() {
    }

    /** A font's sizes. */
    public boolean font(int k, int size, int design) {
        if (!isFont(k) || size < 0 || design < 0) {
            return false;
        }
        fonts.keep(k, size, design);
        return true;
    }

    /** A list is begun in the innermost one. */
    public boolean open(boolean vertical) {
        if (innermost != null && innermost.level >= MOST_LISTS) {
            return false;
        }
        innermost = new OpenList(vertical, innermost);
        return true;
    }

    /** A character joins the innermost list. */
    public boolean character(int font, int code, int width, int height, int depth) {
        if (innermost == null || innermost.vertical || items >= MOST_ITEMS) {
            return false;
        }
        if (!isFont(font) || code < 0 || code >= CODES || !areSizes(width, height, depth)) {
            return false;
        }
        Item item = new Item(KIND_CHARACTER, width, height, depth);
        item.font = font;
        item.code = code;
        innermost.join(item);
        items++;
        return true;
    }

    /** A rule joins the innermost list. */
    public boolean rule(int width, int height, int depth, int running) {
        if (innermost == null || items >= MOST_ITEMS || !areSizes(width, height, depth)) {
            return false;
        }
        int allowed = innermost.vertical ? RUNNING_WIDTH : RUNNING_HEIGHT | RUNNING_DEPTH;
        if ((running & ~allowed) != 0) {
            return false;
        }
        // A running measure is kept as 0, so that it does not count: the greatest one of a list is never below 0.
        Item item = new Item(KIND_RULE,
                (running & RUNNING_WIDTH) != 0 ? 0 : width,
                (running & RUNNING_HEIGHT) != 0 ? 0 : height,
                (running & RUNNING_DEPTH) != 0 ? 0 : depth);
        item.running = running;
        innermost.join(item);
        items++;
        return true;
    }

    /** Space joins the innermost list. */
    public boolean space(int width) {
        if (innermost == null || items >= MOST_ITEMS || !isSize(width)) {
            return false;
        }
        innermost.join(new Item(KIND_SPACE, width, 0, 0));
        items++;
        return true;
    }

    /** The innermost list becomes the box of register k. */
    public boolean close(int k) {
        if (innermost == null || !isRegister(k) || items >= MOST_ITEMS) {
            return false;
        }
        Box box = innermost.toBox();
        if (box == null) {
            return false;
        }
        innermost = innermost.outer;
        items++;
        dropBox(k);
        registers[k] = box;
        return true;
    }

    /** The box of register k, or a copy, joins the innermost list. */
    public boolean put(int k, int shift, boolean copies) {
        Box box = boxOf(k);
        if (innermost == null || box == null || !isSize(shift)) {
            return false;
        }
        if (copies && items + box.items > MOST_ITEMS) {
            return false;
        }
        if (!copies) {
            dropBox(k);
        }
        // A closed box never changes, so a copy is the same box at another place, counted again.
        Item item = new Item(KIND_BOX, box.width, box.height, box.depth);
        item.box = box;
        item.shift = shift;
        innermost.join(item);
        items += box.items;
        return true;
    }

    /** The box of register k is written as a page: how many bytes the file has. */
    public int ship(int k) throws IllegalStateException, UnsupportedOperationException {
        Box box = boxOf(k);
        if (ended || box == null) {
            throw new IllegalStateException("the file has its end, or there is no box");
        }
        if (out.length >= FULL_FILE) {
            throw new UnsupportedOperationException("the file is full");
        }
        dropBox(k);
        if (!writePage(box)) {
            throw new UnsupportedOperationException("a place or a move is no size");
        }
        return out.length;
    }

    /** The end is written: how many bytes the file has. */
    public int finish() throws IllegalStateException {
        if (ended) {
            throw new IllegalStateException("the file has its end");
        }
        writeBeginning();
        int place = out.length;
        out.add(FILE_END, 1);
        out.add(lastPage, 4);
        writeUnits();
        out.add(tallest, 4);
        out.add(widest, 4);
        out.add(deepest, 2);
        out.add(pages, 2);
        for (int k = FONTS - 1; k >= 0; k--) {
            if (fonts.isUsed(k)) {
                fonts.write(k, out);
            }
        }
        out.add(FILE_VERY_END, 1);
        out.add(place, 4);
        out.add(FORMAT, 1);
        int fillings = 4 + (4 - out.length % 4) % 4;
        for (int i = 0; i < fillings; i++) {
            out.add(FILLING, 1);
        }
        ended = true;
        return out.length;
    }

    /** Byte k of the file. */
    public int byteAt(int k) {
        return out.get(k);
    }

    /** What there is of bytes, pages, open lists, items and ends. */
    public int count(int what) {
        switch (what) {
            case 0:
                return out.length;
            case 1:
                return pages;
            case 2:
                return innermost == null ? 0 : innermost.level;
            case 3:
                return items;
            case 4:
                return ended ? 1 : 0;
            default:
                return NONE;
        }
    }

    /** A measure of the box of register k. */
    public int size(int k, int what) {
        Box box = boxOf(k);
        if (box == null) {
            return 0;
        }
        switch (what) {
            case 0:
                return box.width;
            case 1:
                return box.height;
            case 2:
                return box.depth;
            default:
                return 0;
        }
    }

    private static boolean isSize(long number) {
        return number >= -LARGEST_SIZE && number <= LARGEST_SIZE;
    }

    private static boolean areSizes(long first, long second, long third) {
        return isSize(first) && isSize(second) && isSize(third);
    }

    private static boolean isFont(int k) {
        return k >= 0 && k < FONTS;
    }

    private static boolean isRegister(int k) {
        return k >= 0 && k < REGISTERS;
    }

    private Box boxOf(int k) {
        return isRegister(k) ? registers[k] : null;
    }

    private void dropBox(int k) {
        Box box = boxOf(k);
        if (box != null) {
            items -= box.items;
            registers[k] = null;
        }
    }

    /** Whether the page could be written; if not, the file is as before. */
    private boolean writePage(Box box) {
        int lengthBefore = out.length;
        int fontsBefore = fonts.used;
        writeBeginning();
        int place = out.length;
        out.add(PAGE_BEGIN, 1);
        out.add(pages + 1, 4);
        for (int i = 0; i < 9; i++) {
            out.add(0, 4);
        }
        out.add(lastPage, 4);
        if (!writer.writeBox(box)) {
            out.cutTo(lengthBefore);
            fonts.used = fontsBefore;
            return false;
        }
        out.add(PAGE_END, 1);
        pages++;
        lastPage = place;
        tallest = Math.max(tallest, box.height + box.depth);
        widest = Math.max(widest, box.width);
        deepest = Math.max(deepest, writer.deepest);
        return true;
    }

    private void writeBeginning() {
        if (out.length > 0) {
            return;
        }
        out.add(FILE_BEGIN, 1);
        out.add(FORMAT, 1);
        writeUnits();
        out.add(0, 1);
    }

    private void writeUnits() {
        out.add(UNIT_OVER, 4);
        out.add(UNIT_UNDER, 4);
        out.add(MAGNIFICATION, 4);
    }

    /** A character, a rule, space, or a box that has joined a list. */
    private static final class Item {
        final int kind;
        final int width;
        final int height;
        final int depth;
        int font;
        int code;
        int running;
        int shift;
        Box box;
        Item next;

        Item(int kind, int width, int height, int depth) {
            this.kind = kind;
            this.width = width;
            this.height = height;
            this.depth = depth;
        }
    }

    /** A closed list; it never changes. */
    private static final class Box {
        final boolean vertical;
        final int width;
        final int height;
        final int depth;
        final Item first;
        /** This box and all that is in it. */
        final int items;
        /** How many boxes are inside one another, this one counted. */
        final int nested;

        Box(OpenList list, int width, int height, int depth) {
            this.vertical = list.vertical;
            this.width = width;
            this.height = height;
            this.depth = depth;
            this.first = list.first;
            this.items = list.items + 1;
            this.nested = list.nested + 1;
        }
    }

    /** A list that items join, with the measures of the box that it would become. */
    private static final class OpenList {
        final boolean vertical;
        final OpenList outer;
        final int level;
        private Item first;
        private Item last;
        private int items;
        private int nested;
        private long width;
        private long height;
        private long depth;

        OpenList(boolean vertical, OpenList outer) {
            this.vertical = vertical;
            this.outer = outer;
            this.level = outer == null ? 1 : outer.level + 1;
        }

        void join(Item item) {
            if (last == null) {
                first = item;
            } else {
                last.next = item;
            }
            last = item;
            items++;
            if (item.box != null) {
                items += item.box.items - 1;
                nested = Math.max(nested, item.box.nested);
            }
            if (vertical) {
                measureDown(item);
            } else {
                measureAcross(item);
            }
        }

        private void measureAcross(Item item) {
            width += item.width;
            height = Math.max(height, (long) item.height - item.shift);
            depth = Math.max(depth, (long) item.depth + item.shift);
        }

        private void measureDown(Item item) {
            // What was the last depth is not that of the last item any more, so it belongs to the height.
            height += depth;
            if (item.kind == KIND_SPACE) {
                height += item.width;
                depth = 0;
            } else {
                height += item.height;
                depth = item.depth;
                width = Math.max(width, (long) item.width + item.shift);
            }
        }

        /** The box, or null if it can't be made. */
        Box toBox() {
            if (nested >= MOST_NESTED || !areSizes(width, height, depth)) {
                return null;
            }
            return new Box(this, (int) width, (int) height, (int) depth);
        }
    }

    /** The bytes of the file. */
    private static final class Bytes {
        private byte[] row = new byte[256];
        private int length;

        /** Adds a number's lowest bytes (0 to 4), the highest of them first. */
        void add(int number, int bytes) {
            if (row.length - length < bytes) {
                row = Arrays.copyOf(row, 2 * row.length);
            }
            for (int i = bytes - 1; i >= 0; i--) {
                row[length] = (byte) (number >> 8 * i);
                length++;
            }
        }

        int get(int k) {
            return k >= 0 && k < length ? row[k] & 255 : NONE;
        }

        void cutTo(int shorter) {
            if (shorter >= 0 && shorter < length) {
                length = shorter;
            }
        }
    }

    /** The fonts' sizes, and which fonts the file has used. */
    private static final class Fonts {
        private final int[] sizes = new int[FONTS];
        private final int[] designs = new int[FONTS];
        /** A bit for each font. */
        private int used;

        void keep(int k, int itsSize, int itsDesign) {
            if (isFont(k)) {
                sizes[k] = itsSize;
                designs[k] = itsDesign;
            }
        }

        boolean isUsed(int k) {
            return isFont(k) && (used >> k & 1) != 0;
        }

        void write(int k, Bytes out) {
            if (!isFont(k)) {
                return;
            }
            used |= 1 << k;
            out.add(FONT_SIZES, 1);
            out.add(k, 1);
            out.add(0, 4);
            out.add(sizes[k], 4);
            out.add(designs[k], 4);
            out.add(0, 1);
            out.add(1, 1);
            out.add('A' + k % 26, 1);
        }
    }

    /** The place in one direction, and the two moves that are kept for it: W and X, or Y and Z. */
    private static final class Track {
        private final int command;
        private int place;
        private int first;
        private int second;
        private boolean secondIsOlder;

        Track(int command) {
            this.command = command;
        }

        void restart() {
            place = 0;
            first = 0;
            second = 0;
            secondIsOlder = false;
        }

        void become(Track other) {
            place = other.place;
            first = other.first;
            second = other.second;
            secondIsOlder = other.secondIsOlder;
        }

        /** Writes the move to a place, if it takes one; false if the move is no size. */
        boolean goTo(int target, Bytes out) {
            long move = (long) target - place;
            if (move == 0) {
                return true;
            }
            if (!isSize(move)) {
                return false;
            }
            boolean takesSecond = move != first && (move == second || secondIsOlder);
            int kept = takesSecond ? second : first;
            int bytes = move == kept ? 0 : fewestBytes(move);
            out.add((takesSecond ? command + SECOND_MOVE : command) + bytes, 1);
            out.add((int) move, bytes);
            if (takesSecond) {
                second = (int) move;
            } else {
                first = (int) move;
            }
            secondIsOlder = !takesSecond;
            place = target;
            return true;
        }

        private static int fewestBytes(long move) {
            if (move >= -128 && move < 128) {
                return 1;
            }
            if (move >= -32768 && move < 32768) {
                return 2;
            }
            return move >= -8388608 && move < 8388608 ? 3 : 4;
        }
    }

    /** A box that is being written: where it is, what comes next in it, and what was saved at its beginning. */
    private static final class Frame {
        final Frame outer;
        final int level;
        private final Track savedAcross = new Track(MOVE_RIGHT);
        private final Track savedDown = new Track(MOVE_DOWN);
        private Frame inner;
        private boolean vertical;
        private int width;
        private int height;
        private int depth;
        private int left;
        private int base;
        /** The place of the next item: to the right in a horizontal box, down in a vertical one. */
        private int at;
        private Item next;

        Frame(Frame outer) {
            this.outer = outer;
            this.level = outer == null ? 1 : outer.level + 1;
        }

        /** The frame for a box inside; it is made once and used again. */
        Frame inside() {
            if (inner == null) {
                inner = new Frame(this);
            }
            return inner;
        }

        void begin(Box box, Track across, Track down) {
            savedAcross.become(across);
            savedDown.become(down);
            vertical = box.vertical;
            width = box.width;
            height = box.height;
            depth = box.depth;
            left = across.place;
            base = down.place;
            at = vertical ? base - height : left;
            next = box.first;
        }

        int widthOf(Item item) {
            return (item.running & RUNNING_WIDTH) != 0 ? width : item.width;
        }

        int heightOf(Item item) {
            return (item.running & RUNNING_HEIGHT) != 0 ? height : item.height;
        }

        int depthOf(Item item) {
            return (item.running & RUNNING_DEPTH) != 0 ? depth : item.depth;
        }

        /** Height and depth together. */
        long extentOf(Item item) {
            return (long) heightOf(item) + depthOf(item);
        }

        /** The place to the right at which an item is written. */
        long rightOf(Item item) {
            return vertical ? (long) left + item.shift : at;
        }

        /** The place down at which an item is written: its base line, or a rule's lower end. */
        long downOf(Item item) {
            if (vertical) {
                return at + (item.kind == KIND_RULE ? extentOf(item) : item.height);
            }
            return (long) base + (item.kind == KIND_RULE ? depthOf(item) : item.shift);
        }

        /** The place behind an item: to the right in a horizontal box, down in a vertical one. */
        long behind(Item item) {
            if (vertical && item.kind != KIND_SPACE) {
                return at + extentOf(item);
            }
            return (long) at + item.width;
        }
    }

    /** Writes what is on a page. */
    private static final class PageWriter {
        private final Bytes out = new Bytes();
        private final Fonts fonts = new Fonts();
        private final Track across = new Track(MOVE_RIGHT);
        private final Track down = new Track(MOVE_DOWN);
        private final Frame outermost = new Frame(null);
        private int lastFont;
        private int deepest;
        private boolean failed;

        /** Whether the page box could be written; if not, a part of it may stand in the file. */
        boolean writeBox(Box page) {
            across.restart();
            down.restart();
            lastFont = NONE;
            deepest = 0;
            failed = false;
            if (page.first == null) {
                return true;
            }
            moveTo(0, page.height);
            Frame frame = enter(outermost, page);
            for (int step = 0; step < MOST_STEPS && frame != null && !failed; step++) {
                Item item = frame.next;
                if (item == null) {
                    frame = leave(frame);
                } else {
                    frame.next = item.next;
                    frame = writeItem(frame, item);
                }
            }
            return !failed;
        }

        /** Writes an item, or the beginning of a box; answers the frame whose items come next. */
        private Frame writeItem(Frame frame, Item item) {
            long right = frame.rightOf(item);
            long lower = frame.downOf(item);
            long behind = frame.behind(item);
            if (!areSizes(right, lower, behind) || !canStand(frame, item, lower)) {
                failed = true;
                return frame;
            }
            frame.at = (int) behind;
            if (!isWritten(frame, item)) {
                return frame;
            }
            moveTo((int) right, (int) lower);
            if (item.box != null) {
                return enter(frame.inside(), item.box);
            }
            if (item.kind == KIND_RULE) {
                writeRule(frame, item);
            } else {
                writeCharacter(item);
            }
            return frame;
        }

        /** Whether a rule's height and depth together, and a vertical box's top, are sizes. */
        private static boolean canStand(Frame frame, Item item, long lower) {
            if (item.kind == KIND_RULE) {
                return isSize(frame.extentOf(item));
            }
            return item.box == null || !item.box.vertical || isSize(lower - item.box.height);
        }

        private static boolean isWritten(Frame frame, Item item) {
            switch (item.kind) {
                case KIND_CHARACTER:
                    return true;
                case KIND_RULE:
                    return frame.extentOf(item) > 0 && frame.widthOf(item) > 0;
                case KIND_BOX:
                    return item.box != null && item.box.first != null;
                default:
                    return false;
            }
        }

        private void moveTo(int right, int lower) {
            if (!across.goTo(right, out) || !down.goTo(lower, out)) {
                failed = true;
            }
        }

        private void writeCharacter(Item item) {
            if (!fonts.isUsed(item.font)) {
                fonts.write(item.font, out);
            }
            if (item.font != lastFont) {
                out.add(FONT_CHOICE + item.font, 1);
                lastFont = item.font;
            }
            if (item.code >= FIRST_LONG_CODE) {
                out.add(LONG_CHARACTER, 1);
            }
            out.add(item.code, 1);
            across.place += item.width;
        }

        private void writeRule(Frame frame, Item item) {
            out.add(frame.vertical ? RULE_THAT_STAYS : RULE_THAT_MOVES, 1);
            out.add((int) frame.extentOf(item), 4);
            out.add(frame.widthOf(item), 4);
            if (!frame.vertical) {
                across.place += item.width;
            }
        }

        /** Begins a box at the place that was moved to. */
        private Frame enter(Frame frame, Box box) {
            out.add(BOX_BEGIN, 1);
            frame.begin(box, across, down);
            deepest = Math.max(deepest, frame.level);
            return frame;
        }

        /** Ends a box; answers the frame of the one around it, or null at the end of the page. */
        private Frame leave(Frame frame) {
            out.add(BOX_END, 1);
            across.become(frame.savedAcross);
            down.become(frame.savedDown);
            return frame.outer;
        }
    }
}
