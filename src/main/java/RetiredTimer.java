/**
 * A timer that counts what is done, and lines from outside by what has been done:
 * when either interrupts, and how far it is until then.
 */
public final class RetiredTimer {
    public static final int NONE = -1;

    private static final int SUPERVISOR = 1;
    private static final int TIMER_ON = 2;
    private static final int LINES_ON = 4;
    private static final int FLAG = 32;
    private static final int SR_BITS = SUPERVISOR | TIMER_ON | LINES_ON | FLAG;

    private static final int NOTHING_DUE = 0;
    private static final int TIMER_DUE = 5;
    private static final int LINES_DUE = 8;

    private static final int MOST_ENTRIES = 32;
    private static final int MOST_STEPS = 20000;
    private static final int LAST_RETIRED = 2147483647;
    private static final int PERIOD_BITS = (1 << 28) - 1;
    private static final long WORD_BITS = (1L << 32) - 1;
    // Above 2^32, the furthest that COUNT can be from PERIOD, so that it is behind every real distance.
    private static final long NEVER = 1L << 40;

    private final int[] entryCounts;
    private final int[] entryLines;
    private int entries;
    private int retired;
    private int count;
    private int period;
    private boolean counting;
    private boolean pending;
    private int mask;
    private int sr;
    private int saved;
    private int taken;

    public RetiredTimer() {
        entryCounts = new int[MOST_ENTRIES];
        entryLines = new int[MOST_ENTRIES];
        setAllAsAtFirst();
    }

    public boolean entry(int count, int lines) {
        if (entries >= MOST_ENTRIES || count <= lastEntryCount()) {
            return false;
        }
        entryCounts[entries] = count;
        entryLines[entries] = lines;
        entries++;
        return true;
    }

    public int steps(int n) {
        if (n < 1 || n > MOST_STEPS || n > LAST_RETIRED - retired) {
            return NONE;
        }
        long free = distanceToInterrupt();
        int done = free < n ? (int) free : n;
        advance(done);
        return done;
    }

    public int take() {
        int due = interruptDue();
        if (due != NOTHING_DUE) {
            saved = sr;
            sr = (sr & FLAG) | SUPERVISOR;
            taken++;
        }
        return due;
    }

    public void back() {
        sr = saved;
    }

    public void mode(int sr) {
        this.sr = sr & SR_BITS;
    }

    public void mask(int lines) {
        mask = lines;
    }

    public void timer(int period, boolean counting, boolean pending) {
        this.period = period & PERIOD_BITS;
        this.counting = counting;
        this.pending = pending;
    }

    public void count(int c) {
        count = c;
    }

    public void reset() {
        setAllAsAtFirst();
    }

    public int until() {
        long distance = distanceToInterrupt();
        return distance <= LAST_RETIRED - retired ? (int) distance : NONE;
    }

    public int linesAt(int n) {
        int lines = 0;
        // Counts rise from entry to entry and none is below 0, so a negative n finds no entry.
        for (int i = 0; i < entries && i < MOST_ENTRIES; i++) {
            if (entryCounts[i] <= n) {
                lines = entryLines[i];
            }
        }
        return lines;
    }

    public int entryOf(int i, boolean lines) {
        if (i < 0 || i >= entries || i >= MOST_ENTRIES) {
            return NONE;
        }
        return lines ? entryLines[i] : entryCounts[i];
    }

    public int look(int which) {
        switch (which) {
            case 0: return retired;
            case 1: return count;
            case 2: return period;
            case 3: return pending ? 1 : 0;
            case 4: return counting ? 1 : 0;
            case 5: return mask;
            case 6: return linesAt(retired);
            case 7: return sr;
            case 8: return saved;
            case 9: return taken;
            case 10: return entries;
            case 11: return interruptDue();
            default: return NONE;
        }
    }

    private void setAllAsAtFirst() {
        // The rows keep their old numbers: nothing reads them at or behind entries.
        entries = 0;
        retired = 0;
        count = 0;
        period = 0;
        counting = false;
        pending = false;
        mask = 0;
        sr = SUPERVISOR;
        saved = 0;
        taken = 0;
    }

    /** -1 without an entry, so that the first one may have the count 0 but none below. */
    private int lastEntryCount() {
        return entries > 0 && entries <= MOST_ENTRIES ? entryCounts[entries - 1] : -1;
    }

    private int interruptDue() {
        if (isOn(TIMER_ON) && pending) {
            return TIMER_DUE;
        }
        if (isOn(LINES_ON) && isInMask(linesAt(retired))) {
            return LINES_DUE;
        }
        return NOTHING_DUE;
    }

    private boolean isOn(int bit) {
        return (sr & bit) != 0;
    }

    private boolean isInMask(int lines) {
        return (lines & mask) != 0;
    }

    private long distanceToInterrupt() {
        if (interruptDue() != NOTHING_DUE) {
            return 0;
        }
        return Math.min(distanceToTimer(), distanceToLines());
    }

    /** Asked only when no interrupt is due: with TIMER ON, PENDING is not set then. */
    private long distanceToTimer() {
        return isOn(TIMER_ON) && counting ? distanceToPeriod() : NEVER;
    }

    /** Asked only when no interrupt is due: the lines that stand now need no look. */
    private long distanceToLines() {
        if (!isOn(LINES_ON)) {
            return NEVER;
        }
        for (int i = 0; i < entries && i < MOST_ENTRIES; i++) {
            if (entryCounts[i] > retired && isInMask(entryLines[i])) {
                return entryCounts[i] - retired;
            }
        }
        return NEVER;
    }

    /** 1 .. 2^32: COUNT is looked at behind a step, so one that is PERIOD already goes all the way round. */
    private long distanceToPeriod() {
        long distance = ((long) period - count) & WORD_BITS;
        return distance == 0 ? WORD_BITS + 1 : distance;
    }

    private void advance(int done) {
        retired += done;
        if (counting) {
            advanceCount(done);
        }
    }

    private void advanceCount(int done) {
        long first = distanceToPeriod();
        if (done < first) {
            count += done;
            return;
        }
        pending = true;
        int behind = done - (int) first;
        // From 0, a PERIOD of 0 is 2^32 steps off: more than one call does.
        count = period == 0 ? behind : behind % period;
    }
}
