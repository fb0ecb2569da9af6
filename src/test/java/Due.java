/** Compares answers with those that are due, prints those that differ, and ends with exit code 1 if there was one. */
final class Due {
    static final int LARGEST = 1073741823;
    static final int ILLEGAL = -1001;
    static final int UNSUPPORTED = -1002;

    private static final int MOST_PRINTED = 40;

    private final String test;
    private int right;
    private int wrong;

    Due(String test) {
        this.test = test;
    }

    void same(String call, long got, long want) {
        if (got == want) {
            right++;
        } else {
            wrong++;
            if (wrong <= MOST_PRINTED) {
                System.out.println(test + ": " + call + " answered " + got + ", due is " + want);
            }
        }
    }

    void yes(String call, boolean got) {
        same(call, got ? 1 : 0, 1);
    }

    void no(String call, boolean got) {
        same(call, got ? 1 : 0, 0);
    }

    /** The file's bytes from a place on. */
    void bytes(String what, PageFile x, int from, int... want) {
        for (int i = 0; i < want.length; i++) {
            same(what + ": byteAt(" + (from + i) + ")", x.byteAt(from + i), want[i]);
        }
    }

    /** Width, height and depth of the box of a register. */
    void sizes(String what, PageFile x, int k, int width, int height, int depth) {
        same(what + ": width", x.size(k, 0), width);
        same(what + ": height", x.size(k, 1), height);
        same(what + ": depth", x.size(k, 2), depth);
    }

    void end() {
        System.out.println(test + ": " + right + " answers as due, " + wrong + " not");
        if (wrong != 0 || right == 0) {
            System.exit(1);
        }
    }

    /** What ship answers, or which exception it throws. */
    static int ship(PageFile x, int k) {
        try {
            return x.ship(k);
        } catch (IllegalStateException e) {
            return ILLEGAL;
        } catch (UnsupportedOperationException e) {
            return UNSUPPORTED;
        }
    }

    /** What finish answers, or which exception it throws. */
    static int finish(PageFile x) {
        try {
            return x.finish();
        } catch (IllegalStateException e) {
            return ILLEGAL;
        }
    }

    /** A box of register k that has spaces alone, so that there are so many items more, the box counted. */
    static void spaces(PageFile x, int k, int items) {
        x.open(false);
        for (int i = 1; i < items; i++) {
            x.space(0);
        }
        x.close(k);
    }
}
