import java.util.ArrayDeque;
import java.util.ArrayList;
import java.util.HashMap;
import java.util.List;
import java.util.Map;

/** Reads a whole file from its bytes alone: which characters and rules stand where, if their widths are told. */
final class PageReader {
    private final int[] file;
    private final int length;
    private final Map<Integer, Integer> widths;
    private int at;
    private int font;
    private long[] state;
    private final ArrayDeque<long[]> saved = new ArrayDeque<>();
    final List<String> marks = new ArrayList<>();
    /** What is wrong with the file, or null. */
    String fault;

    /** A character's width is that of its font and code: widths has 256 * font + code. */
    PageReader(int[] file, Map<Integer, Integer> widths) {
        this.file = file;
        this.length = file.length;
        this.widths = new HashMap<>(widths);
    }

    void read() {
        if (command() != 247) {
            fault = "no beginning";
        }
        at = 15;
        while (fault == null && at < length) {
            int place = at;
            int command = command();
            if (command == 139) {
                page();
            } else if (command == 248) {
                end(place);
                return;
            } else {
                fault = command + " between pages at " + place;
            }
        }
        fault = fault == null ? "no end" : fault;
    }

    private long number(int bytes) {
        if (at + bytes > length) {
            fault = "no byte " + length;
            return 0;
        }
        long number = file[at] >= 128 ? -1 : 0;
        for (int i = 0; i < bytes; i++) {
            number = number << 8 | file[at++];
        }
        return number;
    }

    private int command() {
        return (int) number(1) & 255;
    }

    private void page() {
        marks.add("page " + number(4));
        at += 40;
        font = -1;
        state = new long[6];
        while (fault == null && at < length) {
            int command = command();
            if (command == 140) {
                fault = saved.isEmpty() ? null : "a box has no end";
                return;
            }
            obey(command);
        }
    }

    /** The state: right, W, X, down, Y, Z. */
    private void obey(int command) {
        if (command <= 128) {
            int code = command < 128 ? command : command();
            marks.add("character " + font + " " + code + " at " + state[0] + " " + state[3]);
            state[0] += widths.getOrDefault(256 * font + code, 0);
        } else if (command == 132 || command == 137) {
            long extent = number(4);
            long width = number(4);
            marks.add("rule " + extent + " " + width + " at " + state[0] + " " + state[3]);
            state[0] += command == 132 ? width : 0;
        } else if (command == 141) {
            saved.push(state.clone());
        } else if (command == 142 && !saved.isEmpty()) {
            state = saved.pop();
        } else if (command >= 147 && command <= 156) {
            move(command - 147, 0);
        } else if (command >= 161 && command <= 170) {
            move(command - 161, 3);
        } else if (command >= 171 && command <= 202) {
            font = command - 171;
        } else if (command == 243) {
            at += 16;
        } else {
            fault = command + " on a page at " + (at - 1);
        }
    }

    private void move(int command, int direction) {
        int kept = direction + 1 + command / 5;
        if (command % 5 != 0) {
            state[kept] = number(command % 5);
        }
        state[direction] += state[kept];
    }

    private void end(int place) {
        at = length;
        while (at > 0 && file[at - 1] == 223) {
            at--;
        }
        int fillings = length - at;
        at -= 6;
        boolean right = command() == 249 && number(4) == place && number(1) == 2;
        fault = right && fillings >= 4 && fillings <= 7 && length % 4 == 0 ? null : "a wrong end";
    }
}
