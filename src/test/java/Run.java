import java.util.ArrayList;
import java.util.List;

/**
 * A run of calls on a new object, kept so that it can be made again: with all its calls, or without those that leave
 * nothing behind. No object is called more than 512 times, as nothing is promised beyond.
 */
final class Run {
    private static final int MOST_CALLS = 512;
    private static final int REGISTERS = 8;
    /** Of a longer file only so many bytes at its beginning and at its end are compared. */
    private static final int MOST_COMPARED = 3000;

    /** A call whose answer is a number; an exception is one of those of Due. */
    interface Call {
        int on(PageFile x);
    }

    /** A call whose answer is yes or no. */
    interface Question {
        boolean on(PageFile x);
    }

    private record Step(Call call, boolean leavesNothing) {
    }

    private final Due due;
    private final String about;
    private final List<Step> steps = new ArrayList<>();
    private final PageFile x = new PageFile();

    Run(Due due, String about) {
        this.due = due;
        this.about = about;
    }

    private int make(Call call, boolean leavesNothing) {
        withinLimit(1);
        steps.add(new Step(call, leavesNothing));
        return call.on(x);
    }

    private static Call asked(Question question) {
        return x -> question.on(x) ? 1 : 0;
    }

    /** A call that is taken. */
    Run takes(String what, Question question) {
        due.same(about + ": " + what, make(asked(question), false), 1);
        return this;
    }

    Run takes(Question question) {
        return takes("call " + steps.size(), question);
    }

    /** A call that is taken, but of which nothing is to be left in the end. */
    Run takesInVain(Question question) {
        due.same(about + ": call " + steps.size(), make(asked(question), true), 1);
        return this;
    }

    /** A call that is refused, and so changes nothing. */
    Run refuses(String what, Question question) {
        due.same(about + ": " + what, make(asked(question), true), 0);
        return this;
    }

    Run answers(String what, int want, Call call) {
        due.same(about + ": " + what, make(call, false), want);
        return this;
    }

    /** A call that throws what Due tells by this number, and leaves nothing. */
    Run fails(String what, int want, Call call) {
        due.same(about + ": " + what, make(call, true), want);
        return this;
    }

    /** A page that can be written. */
    Run ships(int k) {
        due.yes(about + ": ship(" + k + ")", make(x -> Due.ship(x, k), false) > 0);
        return this;
    }

    /** A box of spaces of width 0 alone in register k: so many items more, the box counted. */
    Run spaces(int k, int items) {
        takes(x -> x.open(false));
        for (int i = 1; i < items; i++) {
            takes(x -> x.space(0));
        }
        return takes(x -> x.close(k));
    }

    /** The box of register k twice in a new one of the same register. */
    Run doubles(int k) {
        takes(x -> x.open(false));
        takes(x -> x.put(k, 0, true));
        takes(x -> x.put(k, 0, false));
        return takes(x -> x.close(k));
    }

    /** Brings the items to this number; a horizontal list is open then, and registers 6 and 7 have boxes of spaces. */
    Run fill(int items) {
        spaces(7, 12).spaces(6, 12).doubles(6).doubles(6).doubles(6);
        takes(x -> x.open(false));
        int rest = items - asks(x -> x.count(3));
        for (; rest >= 103; rest -= 103) {
            takes(x -> x.put(6, 0, true));
        }
        for (; rest >= 12; rest -= 12) {
            takes(x -> x.put(7, 0, true));
        }
        for (; rest > 0; rest--) {
            takes(x -> x.space(0));
        }
        return counts(3, items);
    }

    Run counts(int what, int want) {
        return answers("count(" + what + ")", want, x -> x.count(what));
    }

    /** An answer that the test's own steps need. */
    int asks(Call call) {
        return make(call, false);
    }

    /** The file's bytes from a place on. */
    Run bytes(String what, int from, int... want) {
        List<Integer> got = bytesOf(true, from, from + want.length, false);
        for (int i = 0; i < want.length; i++) {
            due.same(about + ": " + what + ": byteAt(" + (from + i) + ")", got.get(i), want[i]);
        }
        return this;
    }

    /** All that later calls show is as if those that leave nothing had not been made. */
    void unchanged() {
        List<Integer> with = shown(true);
        List<Integer> without = shown(false);
        due.same(about + ": how much later calls show", with.size(), without.size());
        for (int i = 0; i < Math.min(with.size(), without.size()); i++) {
            due.same(about + ": what later calls show, answer " + i, with.get(i), without.get(i));
        }
    }

    private List<Integer> shown(boolean all) {
        List<Integer> answers = new ArrayList<>();
        PageFile y = again(all);
        for (int what = 0; what <= 4; what++) {
            answers.add(y.count(what));
        }
        for (int k = 0; k < REGISTERS; k++) {
            for (int what = 0; what <= 2; what++) {
                answers.add(y.size(k, what));
            }
        }
        PageFile z = again(all);
        int lists = z.count(2);
        end(z, lists, answers);
        int length = z.count(0);
        withinLimit(2 + laterCalls(lists));
        answers.add(length);
        answers.addAll(bytesOf(all, 0, Math.min(length, MOST_COMPARED), true));
        answers.addAll(bytesOf(all, Math.max(0, length - MOST_COMPARED), length, true));
        return answers;
    }

    private PageFile again(boolean all) {
        PageFile y = new PageFile();
        for (Step step : steps) {
            if (all || !step.leavesNothing()) {
                step.call().on(y);
            }
        }
        return y;
    }

    /** Ships every register, then every open list, then ends the file. */
    private static void end(PageFile y, int lists, List<Integer> answers) {
        for (int k = 0; k < REGISTERS; k++) {
            answers.add(Due.ship(y, k));
        }
        for (int i = 0; i < lists; i++) {
            answers.add(y.close(0) ? 1 : 0);
            answers.add(Due.ship(y, 0));
        }
        answers.add(Due.finish(y));
    }

    private static int laterCalls(int lists) {
        return REGISTERS + 2 * lists + 1;
    }

    /** Each object is asked for as many bytes as it has calls left. */
    private List<Integer> bytesOf(boolean all, int from, int to, boolean ended) {
        List<Integer> bytes = new ArrayList<>();
        PageFile y = null;
        int left = 0;
        for (int k = from; k < to; k++) {
            if (left == 0) {
                y = again(all);
                left = MOST_CALLS - steps.size();
                if (ended) {
                    int lists = y.count(2);
                    end(y, lists, new ArrayList<>());
                    left -= 1 + laterCalls(lists);
                }
                withinLimit(MOST_CALLS - steps.size() - left + 1);
            }
            bytes.add(y.byteAt(k));
            left--;
        }
        return bytes;
    }

    private void withinLimit(int more) {
        if (steps.size() + more > MOST_CALLS) {
            throw new IllegalStateException(about + ": more than 512 calls");
        }
    }
}
