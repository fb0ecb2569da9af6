import java.util.ArrayList;
import java.util.HashMap;
import java.util.List;
import java.util.Map;

/**
 * Runs of calls, the same ones each time, on PageFile and on Model; then the file is read back. No object is called
 * more than 512 times: to read the file, the run is made again on other objects.
 */
public final class RandomRunsTest {
    private static final int RUNS = 3600;
    private static final int MOST_CALLS = 512;
    /** What a run has but for its last few calls, so that some are left to read bytes. */
    private static final int CALLS = 420;
    private static final int[] EDGES = {0, 1, -1, 1073741823, -1073741823, 1073741824, -1073741824, Integer.MAX_VALUE,
        Integer.MIN_VALUE, 536870912, -536870912, 127, 128, -128, -129, 32767, 32768, -32768, -32769, 8388607, 8388608,
        -8388608, -8388609};
    private static final int[] WIDE = {1073741823, -1073741823, 1073741822, -1073741822};

    private final Due due = new Due("RandomRunsTest");
    private final int[] shipped = new int[3];
    private long seed;
    private PageFile live;
    private List<Run.Call> calls;
    private Model model;
    private int mood;
    private Map<Integer, Integer> widths;

    public static void main(String[] args) {
        RandomRunsTest test = new RandomRunsTest();
        for (int run = 0; run < RUNS; run++) {
            test.run(run);
        }
        test.due.yes("enough pages were shipped", test.shipped[0] > 20000);
        test.due.yes("enough pages could not be", test.shipped[2] > 500);
        test.due.end();
    }

    private int below(int limit) {
        seed = seed * 6364136223846793005L + 1442695040888963407L;
        return (int) ((seed >>> 33) % limit);
    }

    /** Edges in some moods alone, so that in the others boxes can be closed and shipped. */
    private int number() {
        int kind = below(100);
        if (kind < (mood == 3 ? 25 : mood == 2 ? 4 : 0)) {
            return EDGES[below(EDGES.length)];
        }
        if (mood == 4 && kind < 15) {
            return WIDE[below(WIDE.length)];
        }
        if (mood == 4 && kind < 60) {
            return 0;
        }
        if (kind < 70) {
            return below(12) - 3;
        }
        return below(kind < 90 ? 2000 : 100000) - 500;
    }

    private int index(int limit) {
        return below(40) == 0 ? EDGES[below(EDGES.length)] : below(30) == 0 ? limit : below(limit);
    }

    private void run(int run) {
        seed = run * 7919L + 17;
        mood = run % 6;
        live = new PageFile();
        calls = new ArrayList<>();
        model = new Model();
        widths = new HashMap<>();
        while (calls.size() < CALLS) {
            String when = "run " + run + ", call " + calls.size();
            if (below(100) < (mood == 5 ? 30 : mood == 0 ? 10 : 0)) {
                wrap(when);
            } else {
                call(when);
            }
        }
        if (!model.ended) {
            same("run " + run + ": finish", Due::finish, model.finish());
        }
        int[] bytes = bytes(model.file.size());
        for (int k = 0; k < bytes.length; k++) {
            due.same("run " + run + ": byteAt(" + k + ")", bytes[k], model.byteAt(k));
        }
        PageReader reader = new PageReader(bytes, widths);
        reader.read();
        due.yes("run " + run + " read back: " + reader.fault, reader.fault == null);
        due.yes("run " + run + ": all stands at its place", reader.marks.equals(model.marks));
    }

    private void same(String what, Run.Call call, int want) {
        calls.add(call);
        due.same(what, call.on(live), want);
    }

    private int[] bytes(int length) {
        int[] bytes = new int[length];
        PageFile again = null;
        int left = 0;
        for (int k = 0; k < length; k++) {
            if (left == 0) {
                again = new PageFile();
                for (Run.Call call : calls) {
                    call.on(again);
                }
                left = MOST_CALLS - calls.size();
            }
            bytes[k] = again.byteAt(k);
            left--;
        }
        return bytes;
    }

    /** The box of a register comes into a box, once or twice or with a page of its own. */
    private void wrap(String when) {
        int k = below(2);
        int way = below(mood == 5 ? 3 : 2);
        boolean vertical = below(2) == 0;
        int shift = below(3) - 1;
        same(when + " open", x -> x.open(vertical) ? 1 : 0, model.open(vertical) ? 1 : 0);
        if (way > 0) {
            same(when + " copy", x -> x.put(k, shift, true) ? 1 : 0, model.put(k, shift, true) ? 1 : 0);
        }
        int to = way == 2 ? 7 : k;
        if (way < 2) {
            same(when + " put", x -> x.put(k, -shift, false) ? 1 : 0, model.put(k, -shift, false) ? 1 : 0);
        }
        same(when + " close", x -> x.close(to) ? 1 : 0, model.close(to) ? 1 : 0);
        if (way == 2) {
            ship(when, to);
        }
    }

    private void call(String when) {
        int what = below(100);
        if (what < 22) {
            character(when);
        } else if (what < 36) {
            rule(when);
        } else if (what < 50) {
            int width = number();
            same(when + " space", x -> x.space(width) ? 1 : 0, model.space(width) ? 1 : 0);
        } else if (what < 60) {
            boolean vertical = below(2) == 0;
            same(when + " open", x -> x.open(vertical) ? 1 : 0, model.open(vertical) ? 1 : 0);
        } else if (what < 71) {
            int k = index(mood == 1 ? 2 : 8);
            same(when + " close", x -> x.close(k) ? 1 : 0, model.close(k) ? 1 : 0);
        } else if (what < 84) {
            put(when);
        } else if (what < (mood == 1 ? 86 : 90)) {
            ship(when, index(8));
        } else {
            look(when);
        }
        if (below(4) == 0) {
            same(when + " items", x -> x.count(3), model.count(3));
        }
    }

    private void character(String when) {
        int font = index(below(3) == 0 ? 32 : 3);
        int code = index(256);
        int width = widthOf(font, code, number());
        int height = number();
        int depth = number();
        same(when + " character", x -> x.character(font, code, width, height, depth) ? 1 : 0,
                model.character(font, code, width, height, depth) ? 1 : 0);
    }

    /** The reader must know a character's width, so that each has but one: the first that it was given. */
    private int widthOf(int font, int code, int given) {
        if (font < 0 || code < 0 || font >= 32 || code >= 256) {
            return given;
        }
        Integer known = widths.putIfAbsent(256 * font + code, given);
        return known == null ? given : known;
    }

    private void rule(String when) {
        int width = number();
        int height = number();
        int depth = number();
        int running = below(3) == 0 ? index(8) : 0;
        same(when + " rule", x -> x.rule(width, height, depth, running) ? 1 : 0,
                model.rule(width, height, depth, running) ? 1 : 0);
    }

    private void put(String when) {
        int k = index(mood == 1 ? 2 : 8);
        int shift = below(3) == 0 ? 0 : number();
        boolean copies = below(4) != 0;
        same(when + " put", x -> x.put(k, shift, copies) ? 1 : 0, model.put(k, shift, copies) ? 1 : 0);
    }

    private void ship(String when, int k) {
        int want = model.ship(k);
        same(when + " ship", x -> Due.ship(x, k), want);
        shipped[want == Due.ILLEGAL ? 1 : want == Due.UNSUPPORTED ? 2 : 0]++;
    }

    private void look(String when) {
        int what = below(60);
        if (what == 0 && below(12) == 0) {
            same(when + " finish", Due::finish, model.finish());
        } else if (what < 20) {
            int k = index(32);
            int size = number();
            int design = number();
            same(when + " font", x -> x.font(k, size, design) ? 1 : 0, model.font(k, size, design) ? 1 : 0);
        } else if (what < 30) {
            int k = number();
            same(when + " byteAt", x -> x.byteAt(k), model.byteAt(k));
        } else if (what < 40) {
            int of = index(5);
            same(when + " count", x -> x.count(of), model.count(of));
        } else {
            int k = index(8);
            int of = index(3);
            same(when + " size", x -> x.size(k, of), model.size(k, of));
        }
    }
}
