import java.util.ArrayDeque;
import java.util.ArrayList;
import java.util.Deque;
import java.util.List;
import java.util.Random;
import java.util.TreeMap;

/** Many runs of 512 mixed calls beside a plain model that is written from the document's words. */
public final class SegmentBoxModelTest {
    private static final int RUNS = 2000;
    private static final int CALLS = 512;

    /** Places are longs counted from the NUMBER that was opened, so the model never wraps round. */
    private static final class Model {
        int opened = 0;
        long next = 0;
        Long end = null;
        final Deque<Integer> unread = new ArrayDeque<>();
        final TreeMap<Long, Integer> held = new TreeMap<>();

        void open(int n) {
            opened = n;
            next = 0;
            end = null;
            unread.clear();
            held.clear();
        }

        int window() {
            return 64 - unread.size();
        }

        int number(long place) {
            return (int) (opened + place);
        }

        long placeOf(int n) {
            return next + Integer.toUnsignedLong(n - number(next));
        }

        // Byte by byte, as the terms say it: each taken byte moves NEXT before the following one is looked at.
        int segment(int n, long v, int m) {
            int before = unread.size();
            for (int i = 0; i < m; i++) {
                long place = placeOf(n + i);
                boolean inWindow = place < next + window();
                boolean beforeEnd = end == null || place < end;
                if (inWindow && beforeEnd && !held.containsKey(place)) {
                    held.put(place, (int) ((v >> (8 * i)) & 0xFF));
                }
                while (held.containsKey(next)) {
                    unread.addLast(held.remove(next));
                    next++;
                }
            }
            return unread.size() - before;
        }

        boolean end(int n) {
            long place = placeOf(n);
            if (end != null || place > next + window() || !held.tailMap(place, true).isEmpty()) {
                return false;
            }
            end = place;
            return true;
        }

        int read() {
            if (!unread.isEmpty()) {
                return unread.removeFirst();
            }
            return end != null && end == next ? -2 : -1;
        }

        List<long[]> blocks() {
            List<long[]> blocks = new ArrayList<>();
            for (long place : held.keySet()) {
                long[] last = blocks.isEmpty() ? null : blocks.get(blocks.size() - 1);
                if (last != null && last[0] + last[1] == place) {
                    last[1]++;
                } else {
                    blocks.add(new long[] {place, 1});
                }
            }
            return blocks;
        }

        boolean held(int n) {
            return held.containsKey(placeOf(n));
        }
    }

    private static int wrong = 0;

    public static void main(String[] args) {
        for (int run = 0; run < RUNS && wrong < 20; run++) {
            oneRun(run);
        }
        System.out.println(wrong == 0 ? RUNS + " runs as the model" : wrong + " answers differ from the model");
        if (wrong != 0) {
            System.exit(1);
        }
    }

    private static void oneRun(int run) {
        // The seed is the run's number: the same runs every time.
        Random dice = new Random(run);
        SegmentBox box = new SegmentBox();
        Model model = new Model();
        int readsInTen = dice.nextInt(10);
        if (run % 4 != 0) {
            int n = someStart(dice);
            box.open(n);
            model.open(n);
        }
        for (int call = 1; call < CALLS && wrong < 20; call++) {
            oneCall("run " + run + " call " + call, box, model, dice, readsInTen);
        }
    }

    private static int someStart(Random dice) {
        switch (dice.nextInt(4)) {
            case 0: return Integer.MAX_VALUE - dice.nextInt(80);
            case 1: return -dice.nextInt(80);
            case 2: return Integer.MIN_VALUE + dice.nextInt(80);
            default: return dice.nextInt();
        }
    }

    private static int someNumber(Model model, Random dice) {
        int next = model.number(model.next);
        switch (dice.nextInt(12)) {
            case 0: return dice.nextInt();
            case 1: return next + model.window() - 3 + dice.nextInt(6);
            case 2: return next;
            case 3: return next - 1 - dice.nextInt(8);
            case 4: return next + Integer.MIN_VALUE + dice.nextInt(5) - 2;
            default: return next - 4 + dice.nextInt(74);
        }
    }

    private static void oneCall(String where, SegmentBox box, Model model, Random dice, int readsInTen) {
        if (dice.nextInt(10) < readsInTen && dice.nextInt(2) == 0) {
            due(where, "read()", box.read(), model.read());
            return;
        }
        int kind = dice.nextInt(200);
        int n = someNumber(model, dice);
        if (kind < 1) {
            int start = someStart(dice);
            box.open(start);
            model.open(start);
        } else if (kind < 90) {
            segmentCall(where, box, model, n, dice);
        } else if (kind < 94) {
            due(where, "end(" + n + ")", box.end(n) ? 1 : 0, model.end(n) ? 1 : 0);
        } else if (kind < 130) {
            toldCall(where, box, model, dice.nextInt(6));
        } else if (kind < 170) {
            blockCall(where, box, model, dice.nextInt(12) - 1, dice.nextBoolean());
        } else {
            due(where, "held(" + n + ")", box.held(n) ? 1 : 0, model.held(n) ? 1 : 0);
        }
    }

    private static void segmentCall(String where, SegmentBox box, Model model, int n, Random dice) {
        long v = dice.nextLong();
        int m = dice.nextInt(11) - 1;
        if (m >= 0 && m <= 8) {
            due(where, "segment(" + n + ", " + v + ", " + m + ")", box.segment(n, v, m), model.segment(n, v, m));
            return;
        }
        boolean thrown = false;
        try {
            box.segment(n, v, m);
        } catch (IllegalArgumentException e) {
            thrown = true;
        }
        due(where, "segment of " + m + " throws", thrown ? 1 : 0, 1);
    }

    private static void toldCall(String where, SegmentBox box, Model model, int what) {
        int[] want = {model.number(model.next), model.window(), model.unread.size(), model.held.size(),
            model.blocks().size(), model.end == null ? 0 : 1};
        due(where, "told(" + what + ")", box.told(what), want[what]);
    }

    private static void blockCall(String where, SegmentBox box, Model model, int i, boolean many) {
        List<long[]> blocks = model.blocks();
        boolean isThere = i >= 0 && i < blocks.size();
        boolean thrown = false;
        int got = 0;
        try {
            got = box.block(i, many);
        } catch (IndexOutOfBoundsException e) {
            thrown = true;
        }
        due(where, "block(" + i + ", " + many + ") throws", thrown ? 1 : 0, isThere ? 0 : 1);
        if (isThere && !thrown) {
            int want = many ? (int) blocks.get(i)[1] : model.number(blocks.get(i)[0]);
            due(where, "block(" + i + ", " + many + ")", got, want);
        }
    }

    private static void due(String where, String call, int got, int want) {
        if (got != want) {
            wrong++;
            System.out.println(where + ": " + call + " answered " + got + ", due is " + want);
        }
    }
}
