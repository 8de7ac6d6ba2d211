import java.util.Arrays;
import java.util.Map;
import java.util.TreeMap;

/**
 * Long runs of calls, and every state of a small world, against a model that does every STEP one by one, in the
 * document's own words. The class itself reckons many STEPS at once, so the two agree only if the reckoning is right.
 */
public final class ModelTest {
    private static final int RUNS = 1500;
    private static final int CALLS = 512;
    // How far the model goes STEP by STEP to find what until answers
    private static final int AHEAD = 200;
    private static final int[] EDGES = {
        0, 1, 2, 3, 5, 7, 31, 32, 33, 39, -1, -2, -3, 19999, 20000, 20001,
        268435455, 268435456, Integer.MAX_VALUE, Integer.MAX_VALUE - 1, Integer.MIN_VALUE, Integer.MIN_VALUE + 1,
    };

    // Of the small world: COUNT near 0 and near its wrap; counts and LINES of entries by turns
    private static final int[] SMALL_COUNTS = {
        -3, -2, -1, 0, 1, 2, 3, 4, Integer.MAX_VALUE - 1, Integer.MAX_VALUE, Integer.MIN_VALUE,
    };
    private static final int[][] SMALL_ENTRIES = {
        {}, {0, 1}, {1, 1}, {2, 1}, {2, 2}, {1, 1, 2, 0}, {0, 1, 1, 0, 3, 1}, {2, 2, 4, 1}, {1, 2, 2, 1, 3, 3},
    };

    private static long seed = 20261115;
    private static int wrong = 0;

    /** As the document tells it, with nothing reckoned ahead but until, and that found by STEPS too when it is near. */
    private static final class Model {
        long retired;
        int count;
        int period;
        boolean counting;
        boolean pending;
        int mask;
        int sr = 1;
        int saved;
        int taken;
        TreeMap<Integer, Integer> entries = new TreeMap<>();

        boolean entry(int at, int lines) {
            if (at < 0 || entries.size() == 32 || !entries.isEmpty() && at <= entries.lastKey()) {
                return false;
            }
            entries.put(at, lines);
            return true;
        }

        int linesAt(int n) {
            Map.Entry<Integer, Integer> latest = entries.floorEntry(n);
            return latest == null ? 0 : latest.getValue();
        }

        int due() {
            if ((sr & 2) != 0 && pending) {
                return 5;
            }
            return (sr & 4) != 0 && (linesAt((int) retired) & mask) != 0 ? 8 : 0;
        }

        void step() {
            retired++;
            if (counting) {
                count++;
                if (count == period) {
                    pending = true;
                    count = 0;
                }
            }
        }

        int steps(int n) {
            if (n < 1 || n > 20000 || retired + n >= 1L << 31) {
                return -1;
            }
            int done = 0;
            while (done < n && due() == 0) {
                step();
                done++;
            }
            return done;
        }

        int take() {
            int due = due();
            if (due != 0) {
                saved = sr;
                sr = (sr & 32) | 1;
                taken++;
            }
            return due;
        }

        int until() {
            if (due() != 0) {
                return 0;
            }
            long nearest = 1L << 32;
            if ((sr & 2) != 0 && counting) {
                long ahead = (long) period - count;
                nearest = ahead > 0 ? ahead : ahead + (1L << 32);
            }
            if ((sr & 4) != 0) {
                for (int at : entries.tailMap((int) retired, false).keySet()) {
                    if ((entries.get(at) & mask) != 0) {
                        nearest = Math.min(nearest, at - retired);
                    }
                }
            }
            return retired + nearest < 1L << 31 ? (int) nearest : -1;
        }

        /** AHEAD and one more if no INTERRUPT is due up to there. */
        int untilByStepping() {
            Model ahead = copy();
            int done = 0;
            while (done <= AHEAD && ahead.due() == 0) {
                ahead.step();
                done++;
            }
            return done;
        }

        Model copy() {
            Model other = new Model();
            other.retired = retired;
            other.count = count;
            other.period = period;
            other.counting = counting;
            other.pending = pending;
            other.mask = mask;
            other.sr = sr;
            other.saved = saved;
            other.taken = taken;
            other.entries.putAll(entries);
            return other;
        }

        int entryOf(int i, boolean lines) {
            int at = 0;
            for (int key : entries.keySet()) {
                if (at++ == i) {
                    return lines ? entries.get(key) : key;
                }
            }
            return -1;
        }

        int look(int which) {
            int[] all = {
                (int) retired, count, period, pending ? 1 : 0, counting ? 1 : 0, mask,
                linesAt((int) retired), sr, saved, taken, entries.size(), due(),
            };
            return which < 0 || which >= all.length ? -1 : all[which];
        }
    }

    public static void main(String[] args) {
        for (int run = 0; run < RUNS && wrong == 0; run++) {
            oneRun(run);
        }
        everySmallState();
        System.out.println(wrong == 0 ? "all answers are as due" : wrong + " answers are not as due");
        if (wrong != 0) {
            System.exit(1);
        }
    }

    private static void oneRun(int run) {
        RetiredTimer x = new RetiredTimer();
        Model m = new Model();
        int calls = 0;
        while (calls < CALLS - 20) {
            int kind = below(run % 3 == 0 ? 90 : 89);
            if (kind == 89) {
                x.reset();
                m = new Model();
            } else if (kind < 40) {
                change(run, kind, x, m);
            } else {
                ask(run, kind, x, m);
            }
            calls++;
        }
        for (int which = -1; which < 13; which++) {
            due(run, "look " + which, x.look(which), m.look(which));
        }
    }

    private static void change(int run, int kind, RetiredTimer x, Model m) {
        if (kind < 10) {
            int last = m.entries.isEmpty() ? 0 : m.entries.lastKey();
            int at = below(12) == 0 ? edge() : last + below(run % 2 == 0 ? 30 : 3000) - 1;
            int lines = below(4) == 0 ? edge() : below(8);
            due(run, "entry " + at + " " + lines, x.entry(at, lines) ? 1 : 0, m.entry(at, lines) ? 1 : 0);
        } else if (kind < 15) {
            x.back();
            m.sr = m.saved;
        } else if (kind < 23) {
            int sr = below(8) == 0 ? edge() : below(64);
            x.mode(sr);
            m.sr = sr & (1 + 2 + 4 + 32);
        } else if (kind < 28) {
            int mask = below(3) == 0 ? edge() : below(8);
            x.mask(mask);
            m.mask = mask;
        } else if (kind < 35) {
            int period = below(4) == 0 ? edge() : below(run % 2 == 0 ? 10 : 5000);
            m.counting = below(4) != 0;
            m.pending = below(6) == 0;
            m.period = period & 0xfffffff;
            x.timer(period, m.counting, m.pending);
        } else {
            int c = below(2) == 0 ? edge() : below(3) == 0 ? m.period - below(40) : below(20) - 10;
            x.count(c);
            m.count = c;
        }
    }

    private static void ask(int run, int kind, RetiredTimer x, Model m) {
        if (kind < 55) {
            int n = below(8) == 0 ? edge() : below(run % 2 == 0 ? 25 : 2000);
            due(run, "steps " + n, x.steps(n), m.steps(n));
        } else if (kind < 63) {
            due(run, "take", x.take(), m.take());
        } else if (kind < 73) {
            dueUntil("run " + run + ": ", x, m);
        } else if (kind < 78) {
            int n = below(3) == 0 ? edge() : (int) m.retired + below(100) - 50;
            due(run, "linesAt " + n, x.linesAt(n), m.linesAt(Math.max(n, -1)));
        } else if (kind < 81) {
            int i = below(4) == 0 ? edge() : below(33);
            boolean lines = below(2) == 0;
            due(run, "entryOf " + i + " " + lines, x.entryOf(i, lines), m.entryOf(i, lines));
        } else {
            int which = below(12) == 0 ? edge() : below(12);
            due(run, "look " + which, x.look(which), m.look(which));
        }
    }

    private static void dueUntil(String where, RetiredTimer x, Model m) {
        int got = x.until();
        due(where + "until", got, m.until());
        int near = m.untilByStepping();
        if (near <= AHEAD) {
            due(where + "until, found by STEPS", got, near);
        } else {
            due(where + "until, none found by " + AHEAD + " STEPS", got >= 0 && got <= AHEAD ? got : -1, -1);
        }
    }

    private static void everySmallState() {
        for (int bits = 0; bits < 64; bits++) {
            for (int period = 0; period < 4; period++) {
                for (int count : SMALL_COUNTS) {
                    for (int[] entries : SMALL_ENTRIES) {
                        oneSmallState(bits, period, count, entries);
                    }
                }
            }
        }
    }

    private static void oneSmallState(int bits, int period, int count, int[] entries) {
        boolean counting = (bits & 1) != 0;
        boolean pending = (bits & 2) != 0;
        int sr = (bits >> 2 & 3) * 2;
        int mask = bits >> 4;
        String state = "entries " + Arrays.toString(entries) + " timer " + period + " " + counting + " " + pending
            + " count " + count + " mode " + sr + " mask " + mask + ": ";
        for (int n = 1; n < 8 && wrong == 0; n++) {
            RetiredTimer x = new RetiredTimer();
            Model m = new Model();
            for (int i = 0; i + 1 < entries.length; i += 2) {
                x.entry(entries[i], entries[i + 1]);
                m.entry(entries[i], entries[i + 1]);
            }
            x.timer(period, counting, pending);
            x.count(count);
            x.mode(sr);
            x.mask(mask);
            m.period = period;
            m.counting = counting;
            m.pending = pending;
            m.count = count;
            m.sr = sr;
            m.mask = mask;
            stepFromSmallState(state, n, x, m);
        }
    }

    private static void stepFromSmallState(String state, int n, RetiredTimer x, Model m) {
        dueUntil(state, x, m);
        due(state + "steps " + n, x.steps(n), m.steps(n));
        String behind = state + "behind steps " + n + " ";
        for (int which = 0; which < 12; which++) {
            due(behind + "look " + which, x.look(which), m.look(which));
        }
        dueUntil(behind, x, m);
        due(behind + "take", x.take(), m.take());
    }

    private static void due(int run, String call, int got, int want) {
        due("run " + run + ": " + call, got, want);
    }

    private static void due(String call, int got, int want) {
        if (got != want) {
            wrong++;
            System.out.println(call + " answered " + got + ", due is " + want);
        }
    }

    private static int edge() {
        return EDGES[below(EDGES.length)];
    }

    /** A row of numbers of our own, so that every run of this test makes the same calls. */
    private static int below(int bound) {
        seed = seed * 6364136223846793005L + 1442695040888963407L;
        return (int) ((seed >>> 33) % bound);
    }
}
