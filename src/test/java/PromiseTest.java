/** The promises of the document one by one: ordinary inputs, the edges it names, wrong inputs. */
public final class PromiseTest {
    private static final int MAX = Integer.MAX_VALUE;
    private static final int MIN = Integer.MIN_VALUE;

    private static final int RETIRED = 0;
    private static final int COUNT = 1;
    private static final int PERIOD = 2;
    private static final int PENDING = 3;
    private static final int COUNTING = 4;
    private static final int MASK = 5;
    private static final int LINES = 6;
    private static final int SR = 7;
    private static final int SAVED = 8;
    private static final int TAKEN = 9;
    private static final int ENTRIES = 10;
    private static final int DUE = 11;

    private static int wrong = 0;

    public static void main(String[] args) {
        promise1NewObject();
        promise2Entry();
        promise2EntryRefusals();
        promise3Steps();
        promise3StepsRefusals();
        promise3StepsStopAtInterrupt();
        promise3StepsCount();
        promise3StepsAtTheEndOfRetired();
        promise4Take();
        promise4TakeKeepsFlagAlone();
        promise4TakePrefersTimer();
        promise5Back();
        promise6Mode();
        promise7Mask();
        promise8Timer();
        promise9Count();
        promise10Reset();
        promise11UntilLines();
        promise11UntilTimer();
        promise11UntilNearest();
        promise11UntilTheLastRetired();
        promise12LinesAt();
        promise13EntryOf();
        promise14Look();
        System.out.println(wrong == 0 ? "all answers are as due" : wrong + " answers are not as due");
        if (wrong != 0) {
            System.exit(1);
        }
    }

    private static void due(String what, long got, long want) {
        if (got != want) {
            wrong++;
            System.out.println(what + ": answered " + got + ", due is " + want);
        }
    }

    private static void due(String what, boolean got, boolean want) {
        due(what, got ? 1 : 0, want ? 1 : 0);
    }

    /** Looks 0 .. 11 against these, in order. */
    private static void dueAll(String what, RetiredTimer x, int... want) {
        for (int i = 0; i < want.length; i++) {
            due(what + " look(" + i + ")", x.look(i), want[i]);
        }
    }

    private static void dueAsAtFirst(String what, RetiredTimer x) {
        dueAll(what, x, 0, 0, 0, 0, 0, 0, 0, 1, 0, 0, 0, 0);
        due(what + " entryOf(0, false)", x.entryOf(0, false), -1);
        due(what + " entryOf(0, true)", x.entryOf(0, true), -1);
        due(what + " linesAt(MAX)", x.linesAt(MAX), 0);
        due(what + " until", x.until(), -1);
    }

    /** An object in which no part of the state is as at first. */
    private static RetiredTimer used() {
        RetiredTimer x = new RetiredTimer();
        x.entry(2, 6);
        x.entry(9, 12);
        x.mask(4);
        x.mode(32 + 4);
        x.steps(5);
        x.take();
        x.timer(7, true, true);
        x.count(3);
        return x;
    }

    private static void promise1NewObject() {
        due("1 NONE", RetiredTimer.NONE, -1);
        RetiredTimer x = new RetiredTimer();
        dueAsAtFirst("1", x);
        RetiredTimer other = used();
        dueAsAtFirst("1 beside a used one", x);
        dueAll("1 the used one", other, 2, 3, 7, 1, 1, 4, 6, 33, 36, 1, 2, 0);
    }

    private static void promise2Entry() {
        RetiredTimer x = new RetiredTimer();
        due("2 the first at 0", x.entry(0, 5), true);
        due("2 LINES at once", x.look(LINES), 5);
        due("2 next", x.entry(1, 0), true);
        x.steps(1);
        due("2 LINES of the next", x.look(LINES), 0);
        due("2 last count", x.entry(MAX, MIN), true);
        due("2 entries", x.look(ENTRIES), 3);
        due("2 lines of the last", x.linesAt(MAX), MIN);

        RetiredTimer late = new RetiredTimer();
        late.steps(100);
        due("2 behind RETIRED", late.entry(3, 9), true);
        due("2 LINES from behind", late.look(LINES), 9);
        due("2 behind RETIRED again", late.entry(4, 10), true);
        due("2 LINES of the latest", late.look(LINES), 10);
    }

    private static void promise2EntryRefusals() {
        RetiredTimer x = new RetiredTimer();
        due("2 below 0", x.entry(-1, 1), false);
        due("2 far below 0", x.entry(MIN, 1), false);
        due("2 none yet", x.look(ENTRIES), 0);
        x.entry(10, 1);
        due("2 the same count", x.entry(10, 2), false);
        due("2 a lower count", x.entry(9, 2), false);
        due("2 below 0 behind another", x.entry(-1, 2), false);
        due("2 one alone", x.look(ENTRIES), 1);
        due("2 its lines stay", x.linesAt(10), 1);
        due("2 one above", x.entry(11, 2), true);

        RetiredTimer full = new RetiredTimer();
        for (int i = 0; i < 32; i++) {
            due("2 entry " + i, full.entry(i * 2, i + 100), true);
        }
        due("2 the 33rd", full.entry(1000, 7), false);
        due("2 the 33rd again", full.entry(MAX, 7), false);
        due("2 32 stay", full.look(ENTRIES), 32);
        due("2 the last stays", full.linesAt(MAX), 131);
        due("2 no entry 32", full.entryOf(32, true), -1);
    }

    private static void promise3Steps() {
        RetiredTimer x = new RetiredTimer();
        due("3 one", x.steps(1), 1);
        due("3 most", x.steps(20000), 20000);
        due("3 RETIRED", x.look(RETIRED), 20001);
        due("3 COUNT stays when not COUNTING", x.look(COUNT), 0);
        due("3 PENDING stays when not COUNTING", x.look(PENDING), 0);
    }

    private static void promise3StepsRefusals() {
        int[] none = {0, -1, 20001, MIN, MAX};
        for (int n : none) {
            RetiredTimer x = new RetiredTimer();
            x.timer(3, true, false);
            due("3 steps(" + n + ")", x.steps(n), -1);
            dueAll("3 unchanged by " + n, x, 0, 0, 3, 0, 1, 0, 0, 1, 0, 0, 0, 0);
            x.mode(2);
            x.timer(3, true, true);
            due("3 steps(" + n + ") with an interrupt due", x.steps(n), -1);
        }
    }

    private static void promise3StepsStopAtInterrupt() {
        RetiredTimer lines = new RetiredTimer();
        lines.entry(4, 1);
        lines.entry(6, 2);
        lines.entry(7, 1);
        lines.mask(2);
        lines.mode(4);
        due("3 up to the lines", lines.steps(6), 6);
        due("3 none any more", lines.steps(1), 0);
        due("3 RETIRED at the lines", lines.look(RETIRED), 6);
        lines.mode(2);
        due("3 on without LINES ON", lines.steps(20), 20);

        RetiredTimer timer = new RetiredTimer();
        timer.timer(4, true, false);
        timer.mode(2);
        due("3 short of the timer", timer.steps(3), 3);
        due("3 not due yet", timer.look(DUE), 0);
        due("3 up to the timer", timer.steps(20000), 1);
        dueAll("3 at the timer", timer, 4, 0, 4, 1, 1, 0, 0, 2, 0, 0, 0, 5);
        due("3 none any more at the timer", timer.steps(20000), 0);
        dueAll("3 still at the timer", timer, 4, 0, 4, 1, 1, 0, 0, 2, 0, 0, 0, 5);
    }

    private static void promise3StepsCount() {
        RetiredTimer x = new RetiredTimer();
        x.timer(10, true, false);
        x.steps(9);
        due("3 COUNT below PERIOD", x.look(COUNT), 9);
        due("3 not PENDING below PERIOD", x.look(PENDING), 0);
        x.steps(1);
        due("3 COUNT at PERIOD", x.look(COUNT), 0);
        due("3 PENDING at PERIOD", x.look(PENDING), 1);
        due("3 PENDING does not stop with TIMER ON off", x.steps(47), 47);
        due("3 COUNT some rounds on", x.look(COUNT), 7);

        RetiredTimer above = new RetiredTimer();
        above.timer(10, true, false);
        above.count(10);
        above.steps(100);
        due("3 COUNT at PERIOD ahead of a step goes on", above.look(COUNT), 110);
        due("3 and is not PENDING", above.look(PENDING), 0);

        RetiredTimer wrap = new RetiredTimer();
        wrap.timer(0, true, false);
        wrap.count(MAX);
        wrap.steps(1);
        due("3 COUNT behind 2^31 - 1", wrap.look(COUNT), MIN);
        due("3 no PENDING behind 2^31 - 1", wrap.look(PENDING), 0);
        wrap.count(-5);
        wrap.steps(4);
        due("3 COUNT below 0", wrap.look(COUNT), -1);
        due("3 no PENDING below 0", wrap.look(PENDING), 0);
        wrap.steps(20);
        due("3 PERIOD 0 goes on from 0", wrap.look(COUNT), 19);
        due("3 PENDING at PERIOD 0", wrap.look(PENDING), 1);

        RetiredTimer one = new RetiredTimer();
        one.timer(1, true, false);
        one.steps(500);
        due("3 PERIOD 1", one.look(COUNT), 0);
        due("3 PENDING of PERIOD 1", one.look(PENDING), 1);
    }

    /** More calls than the document promises for, since no fewer lead there; the answers are its words' all the same. */
    private static void promise3StepsAtTheEndOfRetired() {
        RetiredTimer x = new RetiredTimer();
        for (int i = 0; i < 107374; i++) {
            x.steps(20000);
        }
        due("3 far on", x.look(RETIRED), 2147480000);
        due("3 2^31 together", x.steps(3648), -1);
        due("3 above 2^31 together", x.steps(20000), -1);
        due("3 RETIRED stays", x.look(RETIRED), 2147480000);
        x.timer(3648, true, false);
        x.mode(2);
        due("11 timer behind the end", x.until(), -1);
        x.timer(3647, true, false);
        due("11 timer at the end", x.until(), 3647);
        x.mode(0);
        due("3 2^31 - 1 together", x.steps(3647), 3647);
        due("3 the last RETIRED", x.look(RETIRED), MAX);
        due("3 no more", x.steps(1), -1);
        due("11 none at the end", x.until(), -1);
    }

    private static void promise4Take() {
        RetiredTimer x = new RetiredTimer();
        due("4 none due", x.take(), 0);
        dueAsAtFirst("4 none due changes nothing", x);
        x.timer(3, false, true);
        due("4 PENDING without TIMER ON", x.take(), 0);
        x.mode(2);
        due("4 timer", x.take(), 5);
        dueAll("4 timer", x, 0, 0, 3, 1, 0, 0, 0, 1, 2, 1, 0, 0);
        due("4 no second one", x.take(), 0);
        due("4 TAKEN stays", x.look(TAKEN), 1);

        RetiredTimer y = new RetiredTimer();
        y.entry(0, MIN);
        y.mask(MIN);
        due("4 lines without LINES ON", y.take(), 0);
        y.mode(2 + 1 + 32);
        due("4 lines with all other bits", y.take(), 0);
        y.mode(4);
        due("4 lines", y.take(), 8);
        dueAll("4 lines", y, 0, 0, 0, 0, 0, MIN, MIN, 1, 4, 1, 1, 0);
        y.mode(4);
        y.mask(MAX);
        due("4 lines out of MASK", y.take(), 0);
    }

    private static void promise4TakeKeepsFlagAlone() {
        for (int sr = 0; sr < 64; sr++) {
            RetiredTimer x = new RetiredTimer();
            x.timer(0, false, true);
            x.entry(0, 1);
            x.mask(1);
            x.mode(sr);
            int want = (sr & 2) != 0 ? 5 : (sr & 4) != 0 ? 8 : 0;
            due("4 take with " + sr, x.take(), want);
            due("4 SR from " + sr, x.look(SR), want == 0 ? sr & 39 : (sr & 32) + 1);
            due("4 SAVED from " + sr, x.look(SAVED), want == 0 ? 0 : sr & 39);
            due("4 TAKEN from " + sr, x.look(TAKEN), want == 0 ? 0 : 1);
        }
    }

    private static void promise4TakePrefersTimer() {
        RetiredTimer x = new RetiredTimer();
        x.entry(0, 3);
        x.mask(2);
        x.timer(9, true, true);
        x.mode(6);
        due("4 the timer first", x.take(), 5);
        x.back();
        due("4 PENDING stays when it is TAKEN", x.take(), 5);
        x.back();
        x.timer(9, true, false);
        due("4 then the lines", x.take(), 8);
        due("4 three TAKEN", x.look(TAKEN), 3);
    }

    private static void promise5Back() {
        RetiredTimer x = new RetiredTimer();
        x.back();
        dueAll("5 at first", x, 0, 0, 0, 0, 0, 0, 0, 0, 0, 0, 0, 0);
        x.timer(0, false, true);
        x.mode(34);
        x.take();
        x.back();
        dueAll("5 behind a take", x, 0, 0, 0, 1, 0, 0, 0, 34, 34, 1, 0, 5);
        x.mode(1);
        x.back();
        due("5 SAVED stays", x.look(SR), 34);
    }

    private static void promise6Mode() {
        RetiredTimer x = new RetiredTimer();
        int[] srs = {0, 1, 2, 4, 32, 39, 8, 16, 64, -1, MIN, MAX, 24, ~39};
        for (int sr : srs) {
            x.mode(sr);
            dueAll("6 mode " + sr, x, 0, 0, 0, 0, 0, 0, 0, sr & 39, 0, 0, 0, 0);
        }
    }

    private static void promise7Mask() {
        RetiredTimer x = new RetiredTimer();
        x.entry(0, 0x80000010);
        x.mode(4);
        int[] masks = {0, 16, 1, MIN, MAX, -1, 0x7fffffef};
        int[] dues = {0, 8, 0, 8, 8, 8, 0};
        for (int i = 0; i < masks.length; i++) {
            x.mask(masks[i]);
            due("7 MASK " + masks[i], x.look(MASK), masks[i]);
            due("7 due with " + masks[i], x.look(DUE), dues[i]);
        }
        due("7 LINES stay", x.look(LINES), 0x80000010);
    }

    private static void promise8Timer() {
        RetiredTimer x = new RetiredTimer();
        x.count(-77);
        int[] periods = {0, 1, 268435455, 268435456, 268435457, -1, MIN, MAX};
        int[] want = {0, 1, 268435455, 0, 1, 268435455, 0, 268435455};
        for (int i = 0; i < periods.length; i++) {
            for (int bits = 0; bits < 4; bits++) {
                x.timer(periods[i], (bits & 1) != 0, (bits & 2) != 0);
                String what = "8 timer(" + periods[i] + ") with " + bits;
                dueAll(what, x, 0, -77, want[i], bits >> 1, bits & 1, 0, 0, 1, 0, 0, 0, 0);
            }
        }
        x.timer(-76, true, false);
        x.count(268435379);
        x.steps(1);
        due("8 the lowest bits are the PERIOD", x.look(PENDING), 1);
        x.timer(5, true, false);
        due("8 PENDING is taken back", x.look(PENDING), 0);
        x.timer(5, false, false);
        x.steps(9);
        due("8 not COUNTING", x.look(COUNT), 0);
    }

    private static void promise9Count() {
        RetiredTimer x = new RetiredTimer();
        x.timer(5, true, false);
        int[] counts = {0, 5, -1, MIN, MAX, 268435456};
        for (int c : counts) {
            x.count(c);
            dueAll("9 count(" + c + ")", x, 0, c, 5, 0, 1, 0, 0, 1, 0, 0, 0, 0);
        }
        x.count(4);
        x.steps(1);
        due("9 counts from there", x.look(PENDING), 1);
        x.count(2);
        due("9 PENDING stays", x.look(PENDING), 1);
    }

    private static void promise10Reset() {
        RetiredTimer x = used();
        x.reset();
        dueAsAtFirst("10", x);
        x.back();
        due("10 SAVED is gone", x.look(SR), 0);
        due("10 a low entry again", x.entry(0, 1), true);
        due("10 the old entries are gone", x.linesAt(MAX), 1);
        x.reset();
        dueAsAtFirst("10 again", x);
        for (int round = 0; round < 3; round++) {
            for (int i = 0; i < 32; i++) {
                due("10 round " + round + " entry " + i, x.entry(i, i), true);
            }
            due("10 round " + round + " full", x.entry(32, 1), false);
            x.reset();
        }
        dueAsAtFirst("10 behind full ones", x);
    }

    private static void promise11UntilLines() {
        RetiredTimer x = new RetiredTimer();
        x.entry(3, 1);
        x.entry(8, 2);
        x.entry(9, 3);
        x.entry(MAX, 4);
        x.mode(4);
        due("11 no MASK", x.until(), -1);
        x.mask(1);
        due("11 first entry", x.until(), 3);
        x.mask(2);
        due("11 second entry", x.until(), 8);
        x.mask(4);
        due("11 entry at the last RETIRED", x.until(), MAX);
        x.mask(8);
        due("11 in no entry", x.until(), -1);
        x.mask(1);
        x.mode(2);
        due("11 without LINES ON", x.until(), -1);
        x.steps(4);
        x.mode(4);
        due("11 due now", x.until(), 0);
        x.mask(2);
        due("11 from RETIRED on", x.until(), 4);
        due("11 changes nothing", x.look(RETIRED), 4);
        x.mode(0);
        x.steps(4);
        x.mask(1);
        x.mode(4);
        due("11 lines of the past are past", x.until(), 1);
        due("11 as far as steps go", x.steps(20000), 1);
        due("11 due behind them", x.until(), 0);
    }

    private static void promise11UntilTimer() {
        RetiredTimer x = new RetiredTimer();
        x.mode(2);
        x.timer(7, false, false);
        due("11 not COUNTING", x.until(), -1);
        x.timer(7, true, false);
        due("11 PERIOD", x.until(), 7);
        x.count(6);
        due("11 one off", x.until(), 1);
        x.count(7);
        due("11 at PERIOD", x.until(), -1);
        x.count(8);
        due("11 above PERIOD", x.until(), -1);
        x.count(-1);
        due("11 below 0", x.until(), 8);
        x.timer(7, true, true);
        due("11 PENDING", x.until(), 0);
        x.timer(7, false, true);
        due("11 PENDING, not COUNTING", x.until(), 0);
        x.mode(4);
        due("11 without TIMER ON", x.until(), -1);
        x.mode(2);
        x.timer(0, true, false);
        x.count(0);
        due("11 PERIOD 0 from 0", x.until(), -1);
        x.count(-1);
        due("11 PERIOD 0 from -1", x.until(), 1);
        x.timer(-1, true, false);
        x.count(0);
        due("11 the longest PERIOD", x.until(), 268435455);
    }

    private static void promise11UntilNearest() {
        RetiredTimer x = new RetiredTimer();
        x.entry(10, 1);
        x.mask(1);
        x.mode(6);
        x.timer(11, true, false);
        due("11 lines are nearer", x.until(), 10);
        x.timer(9, true, false);
        due("11 the timer is nearer", x.until(), 9);
        x.timer(10, true, false);
        due("11 both at once", x.until(), 10);
        due("11 both at once by steps", x.steps(11), 10);
        due("11 both at once by take", x.take(), 5);
    }

    private static void promise11UntilTheLastRetired() {
        RetiredTimer x = new RetiredTimer();
        x.mode(2);
        x.timer(0, true, false);
        x.count(MIN + 1);
        due("11 2^31 - 1 steps", x.until(), MAX);
        x.count(MIN);
        due("11 2^31 steps", x.until(), -1);
        x.count(MAX);
        due("11 2^31 + 1 steps", x.until(), -1);
        x.mode(0);
        x.steps(1);
        x.mode(2);
        x.count(MIN + 1);
        due("11 2^31 - 1 steps from 1", x.until(), -1);
        x.count(MIN + 2);
        due("11 2^31 - 2 steps from 1", x.until(), MAX - 1);
        x.timer(268435455, true, false);
        x.count(MIN + 268435455 + 2);
        due("11 the longest PERIOD to the last RETIRED", x.until(), MAX - 1);
        x.count(MIN + 268435455 + 1);
        due("11 one too many", x.until(), -1);
    }

    private static void promise12LinesAt() {
        RetiredTimer x = new RetiredTimer();
        due("12 no entries", x.linesAt(5), 0);
        x.entry(0, 9);
        x.entry(5, -1);
        x.entry(6, 0);
        x.entry(MAX, 7);
        int[] ns = {MIN, -1, 0, 1, 4, 5, 6, 7, MAX - 1, MAX};
        int[] want = {0, 0, 9, 9, 9, -1, 0, 0, 0, 7};
        for (int i = 0; i < ns.length; i++) {
            due("12 linesAt(" + ns[i] + ")", x.linesAt(ns[i]), want[i]);
        }
        x.steps(5);
        due("12 the past", x.linesAt(4), 9);
        due("12 LINES now", x.look(LINES), -1);
        due("12 MASK and SR are nothing to it", x.linesAt(5), -1);
    }

    private static void promise13EntryOf() {
        RetiredTimer x = new RetiredTimer();
        due("13 none", x.entryOf(0, false), -1);
        x.entry(4, 11);
        x.entry(40, MIN);
        int[] is = {0, 1, 2, 31, 32, -1, MIN, MAX};
        int[] counts = {4, 40, -1, -1, -1, -1, -1, -1};
        int[] lines = {11, MIN, -1, -1, -1, -1, -1, -1};
        for (int i = 0; i < is.length; i++) {
            due("13 count of " + is[i], x.entryOf(is[i], false), counts[i]);
            due("13 lines of " + is[i], x.entryOf(is[i], true), lines[i]);
        }
        for (int i = 2; i < 32; i++) {
            x.entry(100 + i, 200 + i);
        }
        due("13 count of the 32nd", x.entryOf(31, false), 131);
        due("13 lines of the 32nd", x.entryOf(31, true), 231);
        due("13 no 33rd", x.entryOf(32, false), -1);
    }

    private static void promise14Look() {
        RetiredTimer x = used();
        due("14 RETIRED", x.look(RETIRED), 2);
        due("14 COUNT", x.look(COUNT), 3);
        due("14 PERIOD", x.look(PERIOD), 7);
        due("14 PENDING", x.look(PENDING), 1);
        due("14 COUNTING", x.look(COUNTING), 1);
        due("14 MASK", x.look(MASK), 4);
        due("14 LINES", x.look(LINES), 6);
        due("14 SR", x.look(SR), 33);
        due("14 SAVED", x.look(SAVED), 36);
        due("14 TAKEN", x.look(TAKEN), 1);
        due("14 entries", x.look(ENTRIES), 2);
        due("14 none due", x.look(DUE), 0);
        x.mode(4);
        due("14 lines due", x.look(DUE), 8);
        x.mode(6);
        due("14 timer due", x.look(DUE), 5);
        due("14 looking takes nothing", x.look(TAKEN), 1);
        int[] none = {-1, 12, 13, MIN, MAX};
        for (int which : none) {
            due("14 look(" + which + ")", x.look(which), -1);
        }
    }
}
