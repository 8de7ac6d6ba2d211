/**
 * Long runs of calls against a model that does every STEP one by one, in the document's own words.
 * The class itself reckons many STEPS at once, so the two agree only if the reckoning is right.
 */
public final class ModelTest {
    private static final int RUNS = 1500;
    private static final int CALLS = 512;
    private static final int[] EDGES = {
        0, 1, 2, 3, 5, 7, 31, 32, 33, 39, -1, -2, -3, 19999, 20000, 20001,
        268435455, 268435456, Integer.MAX_VALUE, Integer.MAX_VALUE - 1, Integer.MIN_VALUE, Integer.MIN_VALUE + 1,
    };

    private static long seed = 20261115;
    private static int wrong = 0;

    /** As the document tells it, with nothing reckoned ahead but until. */
    private static final class Model {
        long retired;
        int count;
        int period;
        boolean counting;
        boolean pending;
        int mask;
        int sr = 1;
        int saved;
        int taken;
        java.util.TreeMap<Integer, Integer> entries = new java.util.TreeMap<>();

        boolean entry(int at, int lines) {
            if (at < 0 || entries.size() == 32 || !entries.isEmpty() && at <= entries.lastKey()) {
                return false;
            }
            entries.put(at, lines);
            return true;
        }

        int linesAt(int n) {
            java.util.Map.Entry<Integer, Integer> latest = entries.floorEntry(n);
            return latest == null ? 0 : latest.getValue();
        }

        int due() {
            if ((sr & 2) != 0 && pending) {
                return 5;
            }
            return (sr & 4) != 0 && (linesAt((int) retired) & mask) != 0 ? 8 : 0;
        }

        void step() {
            retired++;
            if (counting) {
                count++;
                if (count == period) {
                    pending = true;
                    count = 0;
                }
            }
        }

        int steps(int n) {
            if (n < 1 || n > 20000 || retired + n >= 1L << 31) {
                return -1;
            }
            int done = 0;
            while (done < n && due() == 0) {
                step();
                done++;
            }
            return done;
        }

        int take() {
            int due = due();
            if (due != 0) {
                saved = sr;
                sr = (sr & 32) | 1;
                taken++;
            }
            return due;
        }

        int until() {
            if (due() != 0) {
                return 0;
            }
            long nearest = 1L << 32;
            if ((sr & 2) != 0 && counting) {
                long ahead = (long) period - count;
                nearest = ahead > 0 ? ahead : ahead + (1L << 32);
            }
            if ((sr & 4) != 0) {
                for (int at : entries.tailMap((int) retired, false).keySet()) {
                    if ((entries.get(at) & mask) != 0) {
                        nearest = Math.min(nearest, at - retired);
                    }
                }
            }
            return retired + nearest < 1L << 31 ? (int) nearest : -1;
        }

        int entryOf(int i, boolean lines) {
            int at = 0;
            for (int key : entries.keySet()) {
                if (at++ == i) {
                    return lines ? entries.get(key) : key;
                }
            }
            return -1;
        }

        int look(int which) {
            int[] all = {
                (int) retired, count, period, pending ? 1 : 0, counting ? 1 : 0, mask,
                linesAt((int) retired), sr, saved, taken, entries.size(), due(),
            };
            return which < 0 || which >= all.length ? -1 : all[which];
        }
    }

    public static void main(String[] args) {
        for (int run = 0; run < RUNS && wrong == 0; run++) {
            oneRun(run);
        }
        System.out.println(wrong == 0 ? "all answers are as due" : wrong + " answers are not as due");
        if (wrong != 0) {
            System.exit(1);
        }
    }

    private static void oneRun(int run) {
        RetiredTimer x = new RetiredTimer();
        Model m = new Model();
        int calls = 0;
        while (calls < CALLS - 20) {
            int kind = below(run % 3 == 0 ? 90 : 89);
            if (kind == 89) {
                x.reset();
                m = new Model();
            } else if (kind < 40) {
                change(run, kind, x, m);
            } else {
                ask(run, kind, x, m);
            }
            calls++;
        }
        for (int which = -1; which < 13; which++) {
            due(run, "look " + which, x.look(which), m.look(which));
        }
    }

    private static void change(int run, int kind, RetiredTimer x, Model m) {
        if (kind < 10) {
            int last = m.entries.isEmpty() ? 0 : m.entries.lastKey();
            int at = below(12) == 0 ? edge() : last + below(run % 2 == 0 ? 30 : 3000) - 1;
            int lines = below(4) == 0 ? edge() : below(8);
            due(run, "entry " + at + " " + lines, x.entry(at, lines) ? 1 : 0, m.entry(at, lines) ? 1 : 0);
        } else if (kind < 15) {
            x.back();
            m.sr = m.saved;
        } else if (kind < 23) {
            int sr = below(8) == 0 ? edge() : below(64);
            x.mode(sr);
            m.sr = sr & (1 + 2 + 4 + 32);
        } else if (kind < 28) {
            int mask = below(3) == 0 ? edge() : below(8);
            x.mask(mask);
            m.mask = mask;
        } else if (kind < 35) {
            int period = below(4) == 0 ? edge() : below(run % 2 == 0 ? 10 : 5000);
            m.counting = below(4) != 0;
            m.pending = below(6) == 0;
            m.period = period & 0xfffffff;
            x.timer(period, m.counting, m.pending);
        } else {
            int c = below(2) == 0 ? edge() : below(3) == 0 ? m.period - below(40) : below(20) - 10;
            x.count(c);
            m.count = c;
        }
    }

    private static void ask(int run, int kind, RetiredTimer x, Model m) {
        if (kind < 55) {
            int n = below(8) == 0 ? edge() : below(run % 2 == 0 ? 25 : 2000);
            due(run, "steps " + n, x.steps(n), m.steps(n));
        } else if (kind < 63) {
            due(run, "take", x.take(), m.take());
        } else if (kind < 73) {
            due(run, "until", x.until(), m.until());
        } else if (kind < 78) {
            int n = below(3) == 0 ? edge() : (int) m.retired + below(100) - 50;
            due(run, "linesAt " + n, x.linesAt(n), m.linesAt(Math.max(n, -1)));
        } else if (kind < 81) {
            int i = below(4) == 0 ? edge() : below(33);
            boolean lines = below(2) == 0;
            due(run, "entryOf " + i + " " + lines, x.entryOf(i, lines), m.entryOf(i, lines));
        } else {
            int which = below(12) == 0 ? edge() : below(12);
            due(run, "look " + which, x.look(which), m.look(which));
        }
    }

    private static void due(int run, String call, int got, int want) {
        if (got != want) {
            wrong++;
            System.out.println("run " + run + ": " + call + " answered " + got + ", due is " + want);
        }
    }

    private static int edge() {
        return EDGES[below(EDGES.length)];
    }

    /** A row of numbers of our own, so that every run of this test makes the same calls. */
    private static int below(int bound) {
        seed = seed * 6364136223846793005L + 1442695040888963407L;
        return (int) ((seed >>> 33) % bound);
    }
}
