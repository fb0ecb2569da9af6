import java.util.HashMap;
import java.util.Map;

/** Runs of 512 calls, the same ones each time, on PageFile and on Model; then the file is read back. */
public final class RandomRunsTest {
    private static final int RUNS = 2400;
    private static final int CALLS = 512;
    private static final int[] EDGES = {0, 1, -1, 1073741823, -1073741823, 1073741824, -1073741824, Integer.MAX_VALUE,
        Integer.MIN_VALUE, 536870912, -536870912, 127, 128, -128, -129, 32767, 32768, -32768, -32769, 8388607, 8388608,
        -8388608, -8388609};
    private static final int[] WIDE = {1073741823, -1073741823, 1073741822, -1073741822};

    private final Due due = new Due("RandomRunsTest");
    private final int[] shipped = new int[3];
    private long seed;
    private PageFile x;
    private Model model;
    private int mood;
    private Map<Integer, Integer> widths;

    public static void main(String[] args) {
        RandomRunsTest test = new RandomRunsTest();
        for (int run = 0; run < RUNS; run++) {
            test.run(run);
        }
        test.due.yes("enough pages were shipped", test.shipped[0] > 20000);
        test.due.yes("enough pages could not be", test.shipped[2] > 500);
        test.due.end();
    }

    private int below(int limit) {
        seed = seed * 6364136223846793005L + 1442695040888963407L;
        return (int) ((seed >>> 33) % limit);
    }

    /** Edges in some moods alone, so that in the others boxes can be closed and shipped. */
    private int number() {
        int kind = below(100);
        if (kind < (mood == 3 ? 25 : mood == 2 ? 4 : 0)) {
            return EDGES[below(EDGES.length)];
        }
        if (mood == 4 && kind < 15) {
            return WIDE[below(WIDE.length)];
        }
        if (mood == 4 && kind < 60) {
            return 0;
        }
        if (kind < 70) {
            return below(12) - 3;
        }
        return below(kind < 90 ? 2000 : 100000) - 500;
    }

    private int index(int limit) {
        return below(40) == 0 ? EDGES[below(EDGES.length)] : below(30) == 0 ? limit : below(limit);
    }

    private void run(int run) {
        seed = run * 7919L + 17;
        mood = run % 6;
        x = new PageFile();
        model = new Model();
        widths = new HashMap<>();
        for (int call = 0; call < CALLS; call++) {
            String when = "run " + run + ", call " + call;
            if (below(100) < (mood == 5 ? 30 : mood == 0 ? 10 : 0)) {
                call += wrap(when);
            } else {
                call(when);
            }
        }
        if (!model.ended) {
            due.same("run " + run + ": finish", Due.finish(x), model.finish());
        }
        for (int k = -1; k <= model.file.size(); k++) {
            due.same("run " + run + ": byteAt(" + k + ")", x.byteAt(k), model.byteAt(k));
        }
        PageReader reader = new PageReader(x, widths);
        reader.read();
        due.yes("run " + run + " read back: " + reader.fault, reader.fault == null);
        due.yes("run " + run + ": all stands at its place", reader.marks.equals(model.marks));
    }

    /** The box of a register comes into a box, once or twice or with a page of its own: how many calls that took. */
    private int wrap(String when) {
        int k = below(2);
        int way = below(mood == 5 ? 3 : 2);
        boolean vertical = below(2) == 0;
        int shift = below(3) - 1;
        due.same(when + " open", x.open(vertical) ? 1 : 0, model.open(vertical) ? 1 : 0);
        if (way > 0) {
            due.same(when + " copy", x.put(k, shift, true) ? 1 : 0, model.put(k, shift, true) ? 1 : 0);
        }
        int to = way == 2 ? 7 : k;
        if (way < 2) {
            due.same(when + " put", x.put(k, -shift, false) ? 1 : 0, model.put(k, -shift, false) ? 1 : 0);
        }
        due.same(when + " close", x.close(to) ? 1 : 0, model.close(to) ? 1 : 0);
        if (way == 2) {
            ship(when, to);
        }
        return 4;
    }

    private void call(String when) {
        int what = below(100);
        if (what < 22) {
            character(when);
        } else if (what < 36) {
            rule(when);
        } else if (what < 50) {
            int width = number();
            due.same(when + " space", x.space(width) ? 1 : 0, model.space(width) ? 1 : 0);
        } else if (what < 60) {
            boolean vertical = below(2) == 0;
            due.same(when + " open", x.open(vertical) ? 1 : 0, model.open(vertical) ? 1 : 0);
        } else if (what < 71) {
            int k = index(mood == 1 ? 2 : 8);
            due.same(when + " close", x.close(k) ? 1 : 0, model.close(k) ? 1 : 0);
        } else if (what < 84) {
            put(when);
        } else if (what < (mood == 1 ? 86 : 90)) {
            ship(when, index(8));
        } else {
            look(when);
        }
        due.same(when + " items", x.count(3), model.count(3));
    }

    private void character(String when) {
        int font = index(below(3) == 0 ? 32 : 3);
        int code = index(256);
        int width = number();
        int height = number();
        int depth = number();
        if (font >= 0 && code >= 0 && font < 32 && code < 256) {
            // The reader must know a character's width, so that each has but one.
            Integer known = widths.putIfAbsent(256 * font + code, width);
            width = known == null ? width : known;
        }
        due.same(when + " character", x.character(font, code, width, height, depth) ? 1 : 0,
                model.character(font, code, width, height, depth) ? 1 : 0);
    }

    private void rule(String when) {
        int width = number();
        int height = number();
        int depth = number();
        int running = below(3) == 0 ? index(8) : 0;
        due.same(when + " rule", x.rule(width, height, depth, running) ? 1 : 0,
                model.rule(width, height, depth, running) ? 1 : 0);
    }

    private void put(String when) {
        int k = index(mood == 1 ? 2 : 8);
        int shift = below(3) == 0 ? 0 : number();
        boolean copies = below(4) != 0;
        due.same(when + " put", x.put(k, shift, copies) ? 1 : 0, model.put(k, shift, copies) ? 1 : 0);
    }

    private void ship(String when, int k) {
        int want = model.ship(k);
        due.same(when + " ship", Due.ship(x, k), want);
        shipped[want == Due.ILLEGAL ? 1 : want == Due.UNSUPPORTED ? 2 : 0]++;
    }

    private void look(String when) {
        int what = below(60);
        if (what == 0 && below(12) == 0) {
            due.same(when + " finish", Due.finish(x), model.finish());
        } else if (what < 20) {
            int k = index(32);
            int size = number();
            int design = number();
            due.same(when + " font", x.font(k, size, design) ? 1 : 0, model.font(k, size, design) ? 1 : 0);
        } else if (what < 30) {
            int k = number();
            due.same(when + " byteAt", x.byteAt(k), model.byteAt(k));
        } else if (what < 40) {
            int of = index(5);
            due.same(when + " count", x.count(of), model.count(of));
        } else {
            int k = index(8);
            int of = index(3);
            due.same(when + " size", x.size(k, of), model.size(k, of));
        }
    }
}
