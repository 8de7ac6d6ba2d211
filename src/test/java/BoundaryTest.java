import java.io.IOException;
import java.nio.charset.StandardCharsets;
import java.nio.file.Files;
import java.nio.file.Path;

/**
 * A case of its own for each boundary that a sentence of the document names. A case says where the sentence
 * stands, its words, and which boundary of it is tried; what is wrong is printed with all three.
 */
public final class BoundaryTest {
    private static final int MAX = Integer.MAX_VALUE;
    private static final int MIN = Integer.MIN_VALUE;
    private static final int LONGEST_PERIOD = 268435455;
    private static final int NONE = -1;

    private static final int RETIRED = 0;
    private static final int COUNT = 1;
    private static final int PERIOD = 2;
    private static final int PENDING = 3;
    private static final int COUNTING = 4;
    private static final int MASK = 5;
    private static final int LINES = 6;
    private static final int SR = 7;
    private static final int SAVED = 8;
    private static final int TAKEN = 9;
    private static final int ENTRIES = 10;
    private static final int DUE = 11;

    private static final int TIMER_ON = 2;
    private static final int LINES_ON = 4;

    // What state answers of a new object, and of used()
    private static final String AS_AT_FIRST = "0 0 0 0 0 0 0 1 0 0 0 0 ";
    private static final String AS_USED = "2 3 7 1 1 4 6 33 36 1 2 0 2:6 9:12 ";

    private static final Path DOCUMENT = Path.of("..", "shared", "DOC.md");

    private static String document;
    private static String theCase;
    private static int cases = 0;
    private static int wrong = 0;

    public static void main(String[] args) throws IOException {
        document = Files.exists(DOCUMENT) ? oneLine(Files.readString(DOCUMENT, StandardCharsets.UTF_8)) : null;
        whatItIsForSteps();
        whatItIsForInterruptsAndEntries();
        termsOfPeriod();
        termsOfCount();
        termsOfAStep();
        termsOfTheWrapOfCount();
        termsOfCountAtPeriod();
        termsOfCountNotAtPeriod();
        termsOfTheShortestPeriods();
        termsOfLines();
        termsOfLinesWithoutAnEntry();
        termsOfMask();
        termsOfSr();
        termsOfAnInterrupt();
        termsOfTaking();
        termsOfAllAtFirst();
        termsOfRefusedEntries();
        termsOfRefusedSteps();
        termsOfQuestionsWithoutAnAnswer();
        theConstants();
        promise1();
        promise2AnEntry();
        promise2CountBelow0();
        promise2CountNotAbove();
        promise2ThereAre32();
        promise3HowMany();
        promise3NoneAnyMoreByLines();
        promise3NoneAnyMoreByTheTimer();
        promise3NoneAnyMoreByBoth();
        promise3NIsNone();
        promise3TooManyTogether();
        promise4Taken();
        promise4NoneIsDue();
        promise5();
        promise6();
        promise7();
        promise8Period();
        promise8CountingAndPending();
        promise8CountStays();
        promise9();
        promise10();
        promise11DueAlready();
        promise11AheadOfLines();
        promise11AheadOfTheTimer();
        promise11NoneWillBeDue();
        promise11TheLastRetiredByLines();
        promise11TheLastRetiredByTheTimer();
        promise11NearTheLastRetired();
        promise12LinesAt();
        promise12Below0();
        promise13OfAnEntry();
        promise13NoneSuch();
        promise14Which();
        promise14AnyOtherWhich();
        System.out.println(cases + " boundary cases, " + wrong + " answers are not as due");
        if (wrong != 0) {
            System.exit(1);
        }
    }

    // How a case is told and judged

    /** Begins a case; the words must be the document's own, so that no case outlives its sentence. */
    private static void of(String where, String words, String boundary) {
        cases++;
        theCase = where + " '" + words + "', " + boundary;
        if (document != null && !document.contains(oneLine(words))) {
            wrong++;
            System.out.println(theCase + ": the document has no such words");
        }
    }

    private static String oneLine(String text) {
        return text.replaceAll("\\s+", " ");
    }

    private static void due(String call, long got, long want) {
        if (got != want) {
            wrong++;
            System.out.println(theCase + ": " + call + " answered " + got + ", due is " + want);
        }
    }

    private static void due(String call, boolean got, boolean want) {
        due(call, got ? 1 : 0, want ? 1 : 0);
    }

    private static void due(String call, String got, String want) {
        if (!got.equals(want)) {
            wrong++;
            System.out.println(theCase + ": " + call + " is " + got + ", due is " + want);
        }
    }

    /** All that can be asked about an object: at most 77 calls. */
    private static String state(RetiredTimer x) {
        StringBuilder all = new StringBuilder();
        for (int which = 0; which < 12; which++) {
            all.append(x.look(which)).append(' ');
        }
        int entries = x.look(ENTRIES);
        for (int i = 0; i < entries && i < 32; i++) {
            all.append(x.entryOf(i, false)).append(':').append(x.entryOf(i, true)).append(' ');
        }
        return all.toString();
    }

    // Objects to try a boundary on

    private static RetiredTimer counting(int period, int count, int sr) {
        RetiredTimer x = new RetiredTimer();
        x.timer(period, true, false);
        x.count(count);
        x.mode(sr);
        return x;
    }

    /** With LINES ON and every line in MASK; counts and lines by turns. */
    private static RetiredTimer withEntries(int... countsAndLines) {
        RetiredTimer x = new RetiredTimer();
        for (int i = 0; i + 1 < countsAndLines.length; i += 2) {
            x.entry(countsAndLines[i], countsAndLines[i + 1]);
        }
        x.mask(-1);
        x.mode(LINES_ON);
        return x;
    }

    /** 32 entries with the counts 10, 20 .. 320. */
    private static RetiredTimer full() {
        RetiredTimer x = new RetiredTimer();
        for (int i = 1; i <= 32; i++) {
            x.entry(i * 10, i);
        }
        return x;
    }

    /** No part of the state is as at first. */
    private static RetiredTimer used() {
        RetiredTimer x = new RetiredTimer();
        x.entry(2, 6);
        x.entry(9, 12);
        x.mask(4);
        x.mode(32 + LINES_ON);
        x.steps(5);
        x.take();
        x.timer(7, true, true);
        x.count(3);
        return x;
    }

    /**
     * RETIRED 2147480000, 3647 below the last. No fewer calls than these lead there, far more than the 512
     * that the document promises for: the sentences about 2^31 have no other place to be tried at.
     */
    private static RetiredTimer farOn() {
        RetiredTimer x = new RetiredTimer();
        for (int i = 0; i < 107374; i++) {
            x.steps(20000);
        }
        return x;
    }

    // What it is

    private static void whatItIsForSteps() {
        String where = "What it is";
        String words = "An object is used for at most 512 calls after it has been made";

        of(where, words, "the 512th call behind 511 of steps");
        RetiredTimer x = new RetiredTimer();
        for (int i = 0; i < 511; i++) {
            due("steps(20000)", x.steps(20000), 20000);
        }
        due("look(0)", x.look(RETIRED), 511 * 20000);

        of(where, words, "the 512th call behind 510 of steps with COUNTING");
        x = new RetiredTimer();
        x.timer(7, true, false);
        for (int i = 0; i < 510; i++) {
            due("steps(20000)", x.steps(20000), 20000);
        }
        due("look(1)", x.look(COUNT), 510 * 20000 % 7);

        of(where, words, "the 512th call is steps");
        x = new RetiredTimer();
        for (int i = 0; i < 511; i++) {
            x.count(i);
        }
        due("steps(20000)", x.steps(20000), 20000);
    }

    private static void whatItIsForInterruptsAndEntries() {
        String where = "What it is";
        String words = "An object is used for at most 512 calls after it has been made";
        of(where, words, "the 512th call behind 255 INTERRUPTS");
        RetiredTimer x = new RetiredTimer();
        x.timer(0, false, true);
        for (int i = 0; i < 255; i++) {
            x.mode(TIMER_ON);
            due("take()", x.take(), 5);
        }
        due("look(9)", x.look(TAKEN), 255);

        of(where, words, "the 512th call behind 511 of entry");
        x = new RetiredTimer();
        for (int i = 0; i < 511; i++) {
            due("entry(" + i + ", 1)", x.entry(i, 1), i < 32);
        }
        due("look(10)", x.look(ENTRIES), 32);

        of(where, words, "the 512th call behind 15 resets of a full object");
        x = new RetiredTimer();
        for (int i = 0; i < 15; i++) {
            for (int k = 0; k < 32; k++) {
                due("entry(" + k + ", 1)", x.entry(k, 1), true);
            }
            x.reset();
        }
        for (int k = 0; k < 16; k++) {
            x.entry(k, 1);
        }
        due("look(10)", x.look(ENTRIES), 16);
    }

    // Terms

    private static void termsOfPeriod() {
        String where = "Terms";
        String words = "TIMER has a PERIOD, 0 .. 2^28 - 1";

        of(where, words, "the lowest, 0");
        RetiredTimer x = counting(0, -2, 0);
        due("look(2)", x.look(PERIOD), 0);
        x.steps(1);
        due("look(3) at COUNT -1", x.look(PENDING), 0);
        x.steps(1);
        due("look(3) at COUNT 0", x.look(PENDING), 1);

        of(where, words, "the highest, 2^28 - 1");
        x = counting(LONGEST_PERIOD, LONGEST_PERIOD - 2, 0);
        due("look(2)", x.look(PERIOD), LONGEST_PERIOD);
        x.steps(1);
        due("look(3) at COUNT 2^28 - 2", x.look(PENDING), 0);
        x.steps(1);
        due("look(3) at COUNT 2^28 - 1", x.look(PENDING), 1);
        due("look(1)", x.look(COUNT), 0);

        of(where, words, "one above the highest is none");
        x = counting(LONGEST_PERIOD + 1, LONGEST_PERIOD, 0);
        x.steps(1);
        due("look(3) at COUNT 2^28", x.look(PENDING), 0);
        due("look(1)", x.look(COUNT), LONGEST_PERIOD + 1);
    }

    private static void termsOfCount() {
        String where = "Terms";
        String words = "COUNT is a word (32 bits, with its sign)";
        int[] counts = {MIN, -1, 0, MAX};
        for (int c : counts) {
            of(where, words, "COUNT " + c);
            RetiredTimer x = new RetiredTimer();
            x.count(7);
            x.count(c);
            due("look(1)", x.look(COUNT), c);
        }

        of(where, words, "below 0 it counts up too");
        RetiredTimer x = counting(5, MIN, 0);
        x.steps(20000);
        due("look(1)", x.look(COUNT), MIN + 20000);
        due("look(3)", x.look(PENDING), 0);
    }

    private static void termsOfAStep() {
        String where = "Terms";

        of(where, "RETIRED is 1 more", "the first STEP");
        RetiredTimer x = new RetiredTimer();
        x.steps(1);
        due("look(0)", x.look(RETIRED), 1);

        String words = "if COUNTING, COUNT is 1 more";
        of(where, words, "one STEP");
        x = counting(9, 0, 0);
        x.steps(1);
        due("look(1)", x.look(COUNT), 1);

        of(where, words, "not COUNTING, one below PERIOD");
        x = new RetiredTimer();
        x.timer(9, false, false);
        x.count(8);
        x.mode(TIMER_ON);
        due("steps(20000)", x.steps(20000), 20000);
        due("state", state(x), "20000 8 9 0 0 0 0 2 0 0 0 0 ");
    }

    private static void termsOfTheWrapOfCount() {
        String where = "Terms";
        String words = "behind 2^31 - 1 comes -2^31";
        of(where, words, "up to 2^31 - 1");
        RetiredTimer x = counting(5, MAX - 1, 0);
        x.steps(1);
        due("look(1)", x.look(COUNT), MAX);

        of(where, words, "one STEP behind 2^31 - 1");
        x = counting(5, MAX, 0);
        x.steps(1);
        due("state", state(x), "1 -2147483648 5 0 1 0 0 0 0 0 0 0 ");

        of(where, words, "in the middle of a call");
        x = counting(LONGEST_PERIOD, MAX - 9999, TIMER_ON);
        due("steps(20000)", x.steps(20000), 20000);
        due("look(1)", x.look(COUNT), MIN + 10000);
        due("look(3)", x.look(PENDING), 0);
    }

    private static void termsOfCountAtPeriod() {
        String where = "Terms";
        String words = "if it is PERIOD then, PENDING is set and COUNT is 0";
        of(where, words, "one STEP short of PERIOD");
        RetiredTimer x = counting(10, 0, 0);
        x.steps(9);
        due("look(1)", x.look(COUNT), 9);
        due("look(3)", x.look(PENDING), 0);

        of(where, words, "PERIOD by the last STEP of a call");
        x = counting(10, 0, 0);
        x.steps(10);
        due("look(1)", x.look(COUNT), 0);
        due("look(3)", x.look(PENDING), 1);

        of(where, words, "one STEP behind PERIOD");
        x = counting(10, 0, 0);
        x.steps(11);
        due("look(1)", x.look(COUNT), 1);
        due("look(3)", x.look(PENDING), 1);

        of(where, words, "many times in one call, the last STEP among them");
        x = counting(10, 5, 0);
        x.steps(19995);
        due("look(1)", x.look(COUNT), 0);
        due("look(3)", x.look(PENDING), 1);

        of(where, words, "many times in one call, and one STEP short");
        x = counting(10, 5, 0);
        x.steps(19994);
        due("look(1)", x.look(COUNT), 9);
    }

    private static void termsOfCountNotAtPeriod() {
        String where = "Terms";
        String words = "if it is PERIOD then, PENDING is set and COUNT is 0";
        of(where, words, "COUNT that is PERIOD ahead of the STEP goes on");
        RetiredTimer x = counting(10, 10, 0);
        x.steps(1);
        due("look(1)", x.look(COUNT), 11);
        due("look(3)", x.look(PENDING), 0);

        of(where, words, "COUNT above PERIOD goes on");
        x = counting(10, 11, 0);
        x.steps(20000);
        due("look(1)", x.look(COUNT), 20011);
        due("look(3)", x.look(PENDING), 0);

        of(where, words, "PENDING that is set stays set below PERIOD");
        x = new RetiredTimer();
        x.timer(10, true, true);
        x.steps(1);
        due("look(3)", x.look(PENDING), 1);

        of(where, words, "PENDING that is set stays set at PERIOD");
        x = new RetiredTimer();
        x.timer(10, true, true);
        x.steps(10);
        due("look(1)", x.look(COUNT), 0);
        due("look(3)", x.look(PENDING), 1);
        x.steps(10);
        due("look(3) one PERIOD on", x.look(PENDING), 1);
    }

    private static void termsOfTheShortestPeriods() {
        String where = "Terms";
        String words = "if it is PERIOD then, PENDING is set and COUNT is 0";
        of(where, words, "PERIOD 0 from COUNT -1");
        RetiredTimer x = counting(0, -1, 0);
        x.steps(1);
        due("look(1)", x.look(COUNT), 0);
        due("look(3)", x.look(PENDING), 1);

        of(where, words, "PERIOD 0 from COUNT -1, and on behind it");
        x = counting(0, -1, 0);
        x.steps(20000);
        due("look(1)", x.look(COUNT), 19999);
        due("look(3)", x.look(PENDING), 1);

        of(where, words, "PERIOD 0 from COUNT 0");
        x = counting(0, 0, 0);
        x.steps(20000);
        due("look(1)", x.look(COUNT), 20000);
        due("look(3)", x.look(PENDING), 0);

        of(where, words, "PERIOD 1 at every STEP");
        x = counting(1, 0, 0);
        x.steps(20000);
        due("look(1)", x.look(COUNT), 0);
        due("look(3)", x.look(PENDING), 1);
    }

    private static void termsOfLines() {
        String where = "Terms";
        String words = "LINES at RETIRED n are those of the latest entry with a count of at most n";

        of(where, words, "one STEP short of a count, at it, behind it");
        RetiredTimer x = new RetiredTimer();
        x.entry(3, 5);
        x.entry(4, 6);
        x.steps(2);
        due("look(6) at 2", x.look(LINES), 0);
        x.steps(1);
        due("look(6) at 3", x.look(LINES), 5);
        x.steps(1);
        due("look(6) at 4", x.look(LINES), 6);
        x.steps(20000);
        due("look(6) at 20004", x.look(LINES), 6);

        of(where, words, "the latest of 32");
        x = full();
        x.steps(319);
        due("look(6) at 319", x.look(LINES), 31);
        x.steps(1);
        due("look(6) at 320", x.look(LINES), 32);

        of(where, words, "an entry that comes when RETIRED is its count already");
        x = new RetiredTimer();
        x.steps(3);
        x.entry(3, 5);
        due("look(6)", x.look(LINES), 5);

        of(where, words, "an entry without lines ends those before");
        x = new RetiredTimer();
        x.entry(0, 5);
        x.entry(1, 0);
        x.steps(1);
        due("look(6)", x.look(LINES), 0);
    }

    private static void termsOfLinesWithoutAnEntry() {
        String where = "Terms";
        of(where, "0 without one", "no entry");
        RetiredTimer x = new RetiredTimer();
        due("look(6)", x.look(LINES), 0);
        x.steps(20000);
        due("look(6)", x.look(LINES), 0);

        of(where, "0 without one", "the first entry is still ahead");
        x = new RetiredTimer();
        x.entry(1, 5);
        due("look(6)", x.look(LINES), 0);
    }

    private static void termsOfMask() {
        int[] masks = {MIN, -1, 0, MAX};
        for (int mask : masks) {
            of("Terms", "MASK is a word", "MASK " + mask);
            RetiredTimer x = new RetiredTimer();
            x.mask(6);
            x.mask(mask);
            due("look(5)", x.look(MASK), mask);
        }
    }

    private static void termsOfSr() {
        String where = "Terms";
        String words = "SR has the bits 1 SUPERVISOR, 2 TIMER ON, 4 LINES ON, 32 FLAG; all others are 0 always";
        for (int bit = 0; bit < 32; bit++) {
            of(where, words, "bit " + (1 << bit) + " alone");
            RetiredTimer x = new RetiredTimer();
            x.mode(1 << bit);
            due("look(7)", x.look(SR), (1 << bit) & (1 + 2 + 4 + 32));
        }

        of(where, words, "behind a take and a way back");
        RetiredTimer x = new RetiredTimer();
        x.timer(0, false, true);
        x.mode(-1);
        x.take();
        due("look(7) behind take", x.look(SR), 1 + 32);
        due("look(8) behind take", x.look(SAVED), 1 + 2 + 4 + 32);
        x.back();
        due("look(7) behind back", x.look(SR), 1 + 2 + 4 + 32);
    }

    private static void termsOfAnInterrupt() {
        String where = "Terms";
        String words = "AN INTERRUPT is due, ahead of a STEP";
        of(where, words, "not one STEP is done when it is due at once");
        RetiredTimer x = withEntries(0, 1);
        due("steps(1)", x.steps(1), 0);
        due("look(0)", x.look(RETIRED), 0);

        words = "5 if TIMER ON and PENDING; else 8 if LINES ON, and one of LINES is in MASK; else none";
        for (int tried = 0; tried < 16; tried++) {
            boolean pending = (tried & 1) != 0;
            boolean lines = (tried & 8) != 0;
            int sr = tried & (TIMER_ON + LINES_ON);
            of(where, words, "PENDING " + pending + ", one of LINES in MASK " + lines + ", SR " + sr);
            x = new RetiredTimer();
            x.entry(0, lines ? 6 : 4);
            x.mask(3);
            x.timer(0, false, pending);
            x.mode(sr);
            boolean five = pending && (sr & TIMER_ON) != 0;
            boolean eight = lines && (sr & LINES_ON) != 0;
            due("look(11)", x.look(DUE), five ? 5 : eight ? 8 : 0);
        }

        of(where, words, "the highest line, which is the sign");
        x = withEntries(0, MIN);
        x.mask(MIN);
        due("look(11)", x.look(DUE), 8);
        x.mask(MAX);
        due("look(11)", x.look(DUE), 0);
    }

    private static void termsOfTaking() {
        String where = "Terms";
        String words = "When it is TAKEN, SAVED is SR, and of SR only FLAG stays, SUPERVISOR is set";
        int[] srs = {2, 3, 34, 35, 39};
        for (int sr : srs) {
            of(where, words, "SR " + sr);
            RetiredTimer x = new RetiredTimer();
            x.timer(0, false, true);
            x.mode(sr);
            x.take();
            due("look(7)", x.look(SR), (sr & 32) + 1);
            due("look(8)", x.look(SAVED), sr);
        }

        of(where, "To GO BACK: SR is SAVED", "nothing was SAVED yet");
        RetiredTimer x = new RetiredTimer();
        x.back();
        due("look(7)", x.look(SR), 0);
        due("look(8)", x.look(SAVED), 0);
    }

    private static void termsOfAllAtFirst() {
        String where = "Terms";
        of(where, "At first all is 0, SR is 1, there are no entries", "a new object");
        due("state", state(new RetiredTimer()), AS_AT_FIRST);

        String words = "RETIRED stays below 2^31";
        of(where, words, "2^31 - 1 is reached, and no further");
        RetiredTimer x = farOn();
        due("steps(3647)", x.steps(3647), 3647);
        due("look(0)", x.look(RETIRED), MAX);
        due("steps(1)", x.steps(1), NONE);
        due("look(0)", x.look(RETIRED), MAX);
    }

    private static void termsOfRefusedEntries() {
        String where = "Terms";
        String words = "What answers false or NONE changes nothing";

        int[][] entries = {{-1, 5}, {MIN, 5}, {9, 5}, {8, 5}, {0, 5}};
        for (int[] entry : entries) {
            of(where, words, "entry(" + entry[0] + ", 5) behind one with the count 9");
            RetiredTimer x = used();
            due("entry", x.entry(entry[0], entry[1]), false);
            due("state", state(x), AS_USED);
            due("entry(10, 1) behind it", x.entry(10, 1), true);
        }

        of(where, words, "entry on a new object");
        RetiredTimer x = new RetiredTimer();
        due("entry(-1, 5)", x.entry(-1, 5), false);
        due("state", state(x), AS_AT_FIRST);

        of(where, words, "entry when there are 32");
        x = full();
        String before = state(x);
        due("entry(321, 5)", x.entry(321, 5), false);
        due("state", state(x), before);
    }

    private static void termsOfRefusedSteps() {
        String where = "Terms";
        String words = "What answers false or NONE changes nothing";
        int[] ns = {MIN, -1, 0, 20001, MAX};
        for (int n : ns) {
            of(where, words, "steps(" + n + ")");
            RetiredTimer x = used();
            due("steps", x.steps(n), NONE);
            due("state", state(x), AS_USED);
        }

        of(where, words, "steps beyond the last RETIRED");
        RetiredTimer x = farOn();
        x.timer(7, true, false);
        x.entry(MAX, 1);
        String before = state(x);
        due("steps(3648)", x.steps(3648), NONE);
        due("state", state(x), before);
    }

    private static void termsOfQuestionsWithoutAnAnswer() {
        String where = "Terms";
        String words = "What answers false or NONE changes nothing";
        of(where, words, "until");
        RetiredTimer x = used();
        due("until()", x.until(), NONE);
        due("state", state(x), AS_USED);

        of(where, words, "entryOf");
        x = used();
        due("entryOf(2, true)", x.entryOf(2, true), NONE);
        due("entryOf(-1, false)", x.entryOf(-1, false), NONE);
        due("state", state(x), AS_USED);

        of(where, words, "look");
        x = used();
        due("look(12)", x.look(12), NONE);
        due("look(-1)", x.look(-1), NONE);
        due("state", state(x), AS_USED);
    }

    private static void theConstants() {
        of("Terms", "`NONE = -1`: There is none.", "its number");
        due("NONE", RetiredTimer.NONE, NONE);
    }

    // The promises

    private static void promise1() {
        of("Promise 1", "All as at first.", "nothing is left of an object that was used before");
        due("state of the used one", state(used()), AS_USED);
        RetiredTimer x = new RetiredTimer();
        due("state", state(x), AS_AT_FIRST);
        due("linesAt(MAX)", x.linesAt(MAX), 0);
        due("until()", x.until(), NONE);
    }

    private static void promise2AnEntry() {
        String where = "Promise 2";
        String words = "from RETIRED count on LINES are these: true";

        of(where, words, "count 0, the lowest");
        RetiredTimer x = new RetiredTimer();
        due("entry(0, 5)", x.entry(0, 5), true);
        due("look(6)", x.look(LINES), 5);

        of(where, words, "count 2^31 - 1, the highest");
        x = new RetiredTimer();
        due("entry(MAX, 5)", x.entry(MAX, 5), true);
        due("linesAt(MAX - 1)", x.linesAt(MAX - 1), 0);
        due("linesAt(MAX)", x.linesAt(MAX), 5);

        of(where, words, "a count that RETIRED is beyond");
        x = new RetiredTimer();
        x.steps(20000);
        due("entry(0, 5)", x.entry(0, 5), true);
        due("look(6)", x.look(LINES), 5);

        int[] lines = {0, -1, MIN, MAX};
        for (int line : lines) {
            of(where, words, "lines " + line);
            x = new RetiredTimer();
            due("entry", x.entry(1, line), true);
            due("linesAt(1)", x.linesAt(1), line);
            due("look(10)", x.look(ENTRIES), 1);
        }
    }

    private static void promise2CountBelow0() {
        String where = "Promise 2";
        String words = "false if count is below 0";
        int[] below = {-1, -2, MIN};
        for (int count : below) {
            of(where, words, "count " + count + " without an entry before");
            RetiredTimer x = new RetiredTimer();
            due("entry", x.entry(count, 5), false);
            due("look(10)", x.look(ENTRIES), 0);
            due("entry(0, 6) behind it", x.entry(0, 6), true);
        }
    }

    private static void promise2CountNotAbove() {
        String where = "Promise 2";
        String words = "or not above that of the entry before";
        int[] before = {0, 10, MAX};
        for (int count : before) {
            of(where, words, "the count of the entry before, " + count);
            RetiredTimer x = new RetiredTimer();
            x.entry(count, 5);
            due("entry", x.entry(count, 6), false);
            due("look(10)", x.look(ENTRIES), 1);
            due("linesAt(count)", x.linesAt(count), 5);
        }

        of(where, words, "one below the entry before");
        RetiredTimer x = new RetiredTimer();
        x.entry(10, 5);
        due("entry(9, 6)", x.entry(9, 6), false);
        due("linesAt(9)", x.linesAt(9), 0);

        of(where, words, "one above the entry before");
        x = new RetiredTimer();
        x.entry(10, 5);
        due("entry(11, 6)", x.entry(11, 6), true);
        x.entry(MAX - 1, 7);
        due("entry(MAX, 8)", x.entry(MAX, 8), true);

        of(where, words, "the entry before is the last, not the first");
        x = new RetiredTimer();
        x.entry(10, 5);
        x.entry(20, 6);
        due("entry(15, 7)", x.entry(15, 7), false);
        due("entry(20, 7)", x.entry(20, 7), false);
        due("entry(21, 7)", x.entry(21, 7), true);

        of(where, words, "one that was refused is not the entry before");
        x = new RetiredTimer();
        x.entry(10, 5);
        x.entry(3, 6);
        due("entry(4, 7)", x.entry(4, 7), false);
        due("entry(11, 7)", x.entry(11, 7), true);
    }

    private static void promise2ThereAre32() {
        String where = "Promise 2";
        String words = "or there are 32";
        of(where, words, "the 32nd is still one");
        RetiredTimer x = new RetiredTimer();
        for (int i = 0; i < 31; i++) {
            x.entry(i, 1);
        }
        due("entry(31, 9)", x.entry(31, 9), true);
        due("look(10)", x.look(ENTRIES), 32);
        due("linesAt(31)", x.linesAt(31), 9);

        of(where, words, "the 33rd is none");
        x = full();
        due("entry(321, 9)", x.entry(321, 9), false);
        due("entry(MAX, 9)", x.entry(MAX, 9), false);
        due("look(10)", x.look(ENTRIES), 32);
        due("linesAt(MAX)", x.linesAt(MAX), 32);

        of(where, words, "32 in the past are 32 too");
        x = full();
        x.steps(20000);
        due("entry(30000, 9)", x.entry(30000, 9), false);
    }

    private static void promise3HowMany() {
        String where = "Promise 3";
        String words = "n STEPS are done, 1 .. 20000";

        of(where, words, "1, the fewest");
        RetiredTimer x = new RetiredTimer();
        due("steps(1)", x.steps(1), 1);
        due("look(0)", x.look(RETIRED), 1);

        of(where, words, "20000, the most");
        x = new RetiredTimer();
        due("steps(20000)", x.steps(20000), 20000);
        due("look(0)", x.look(RETIRED), 20000);
    }

    private static void promise3NoneAnyMoreByLines() {
        String where = "Promise 3";
        String words = "but none any more when an INTERRUPT is due: how many";
        of(where, words, "none at all, the lines are due");
        RetiredTimer x = withEntries(0, 1);
        due("steps(20000)", x.steps(20000), 0);
        due("look(0)", x.look(RETIRED), 0);

        of(where, words, "lines due one STEP behind the last");
        x = withEntries(10, 1);
        due("steps(9)", x.steps(9), 9);
        due("look(11)", x.look(DUE), 0);

        of(where, words, "lines due behind the last STEP");
        x = withEntries(10, 1);
        due("steps(10)", x.steps(10), 10);
        due("look(11)", x.look(DUE), 8);

        of(where, words, "lines due ahead of the last STEP");
        x = withEntries(10, 1);
        due("steps(11)", x.steps(11), 10);
        due("look(0)", x.look(RETIRED), 10);

        of(where, words, "lines that last for one STEP alone are not passed over");
        x = withEntries(10, 1, 11, 0);
        due("steps(20000)", x.steps(20000), 10);
        due("look(11)", x.look(DUE), 8);

        of(where, words, "entries out of MASK do not stop it");
        x = withEntries(10, 1, 20, 2, 30, 4);
        x.mask(4);
        due("steps(20000)", x.steps(20000), 30);

        of(where, words, "lines that are over do not stop it");
        x = withEntries(0, 1, 5, 0);
        x.mode(0);
        x.steps(5);
        x.mode(LINES_ON);
        due("steps(20000)", x.steps(20000), 20000);

        of(where, words, "lines without LINES ON do not stop it");
        x = withEntries(10, 1);
        x.mode(TIMER_ON);
        due("steps(20000)", x.steps(20000), 20000);
    }

    private static void promise3NoneAnyMoreByTheTimer() {
        String where = "Promise 3";
        String words = "but none any more when an INTERRUPT is due: how many";
        of(where, words, "none at all, the timer is due, and COUNT stays");
        RetiredTimer x = new RetiredTimer();
        x.timer(9, true, true);
        x.count(8);
        x.mode(TIMER_ON);
        due("steps(20000)", x.steps(20000), 0);
        due("state", state(x), "0 8 9 1 1 0 0 2 0 0 0 5 ");

        of(where, words, "the timer due one STEP behind the last");
        x = counting(10, 0, TIMER_ON);
        due("steps(9)", x.steps(9), 9);
        due("look(11)", x.look(DUE), 0);

        of(where, words, "the timer due behind the last STEP");
        x = counting(10, 0, TIMER_ON);
        due("steps(10)", x.steps(10), 10);
        due("look(11)", x.look(DUE), 5);

        of(where, words, "the timer due ahead of the last STEP");
        x = counting(10, 0, TIMER_ON);
        due("steps(11)", x.steps(11), 10);
        due("state", state(x), "10 0 10 1 1 0 0 2 0 0 0 5 ");

        of(where, words, "the timer due at STEP 20000, and at one more");
        x = counting(20000, 0, TIMER_ON);
        due("steps(20000)", x.steps(20000), 20000);
        due("look(11)", x.look(DUE), 5);
        x = counting(20001, 0, TIMER_ON);
        due("steps(20000)", x.steps(20000), 20000);
        due("look(11)", x.look(DUE), 0);

        of(where, words, "PENDING without TIMER ON does not stop it");
        x = counting(10, 0, LINES_ON);
        due("steps(20000)", x.steps(20000), 20000);
    }

    private static void promise3NoneAnyMoreByBoth() {
        String where = "Promise 3";
        String words = "but none any more when an INTERRUPT is due: how many";
        of(where, words, "lines stop it ahead of the timer, and COUNT with it");
        RetiredTimer x = withEntries(7, 1);
        x.timer(8, true, false);
        x.mode(TIMER_ON + LINES_ON);
        due("steps(20000)", x.steps(20000), 7);
        due("look(1)", x.look(COUNT), 7);
        due("look(3)", x.look(PENDING), 0);

        of(where, words, "both at the same STEP");
        x = withEntries(8, 1);
        x.timer(8, true, false);
        x.mode(TIMER_ON + LINES_ON);
        due("steps(20000)", x.steps(20000), 8);
        due("look(11)", x.look(DUE), 5);
    }

    private static void promise3NIsNone() {
        String where = "Promise 3";
        String words = "NONE if n is none";
        int[] ns = {0, -1, MIN, 20001, MAX};
        for (int n : ns) {
            of(where, words, "n " + n);
            RetiredTimer x = new RetiredTimer();
            due("steps", x.steps(n), NONE);
            due("look(0)", x.look(RETIRED), 0);

            of(where, words, "n " + n + " when an INTERRUPT is due");
            x = withEntries(0, 1);
            due("steps", x.steps(n), NONE);
        }
    }

    private static void promise3TooManyTogether() {
        String where = "Promise 3";
        String words = "or RETIRED and n are 2^31 or more together";
        of(where, words, "a sum that wraps round is more too");
        RetiredTimer x = new RetiredTimer();
        x.steps(1);
        due("steps(MAX)", x.steps(MAX), NONE);

        of(where, words, "2^31 - 1 together");
        x = farOn();
        due("steps(3647)", x.steps(3647), 3647);

        of(where, words, "2^31 together");
        x = farOn();
        due("steps(3648)", x.steps(3648), NONE);
        due("look(0)", x.look(RETIRED), 2147480000);

        of(where, words, "more than 2^31 together");
        x = farOn();
        due("steps(20000)", x.steps(20000), NONE);

        of(where, words, "2^31 together when an INTERRUPT is due");
        x = farOn();
        x.timer(0, false, true);
        x.mode(TIMER_ON);
        due("steps(3648)", x.steps(3648), NONE);
        due("steps(3647)", x.steps(3647), 0);

        of(where, words, "2^31 together when an INTERRUPT would stop it sooner");
        x = farOn();
        x.timer(10, true, false);
        x.mode(TIMER_ON);
        due("steps(3648)", x.steps(3648), NONE);
        due("steps(3647)", x.steps(3647), 10);
    }

    private static void promise4Taken() {
        String where = "Promise 4";
        String words = "The INTERRUPT that is due is TAKEN: 5 or 8";

        of(where, words, "5 when both are due");
        RetiredTimer x = withEntries(0, 1);
        x.timer(0, false, true);
        x.mode(TIMER_ON + LINES_ON);
        due("take()", x.take(), 5);
        due("look(9)", x.look(TAKEN), 1);

        of(where, words, "8 at the very count of the entry");
        x = withEntries(3, 1);
        x.steps(3);
        due("take()", x.take(), 8);
        due("state", state(x), "3 0 0 0 0 -1 1 1 4 1 1 0 3:1 ");

        of(where, words, "5 at the very PERIOD");
        x = counting(3, 0, TIMER_ON);
        x.steps(3);
        due("take()", x.take(), 5);
        due("state", state(x), "3 0 3 1 1 0 0 1 2 1 0 0 ");
    }

    private static void promise4NoneIsDue() {
        String where = "Promise 4";
        String words = "0 if none is due";
        of(where, words, "a new object");
        RetiredTimer x = new RetiredTimer();
        due("take()", x.take(), 0);
        due("state", state(x), AS_AT_FIRST);

        of(where, words, "a used object keeps SR, SAVED and how many were TAKEN");
        x = used();
        due("take()", x.take(), 0);
        due("state", state(x), AS_USED);

        of(where, words, "one STEP ahead of the lines");
        x = withEntries(3, 1);
        x.steps(2);
        due("take()", x.take(), 0);
        due("look(7)", x.look(SR), LINES_ON);

        of(where, words, "one STEP ahead of the timer");
        x = counting(3, 0, TIMER_ON);
        x.steps(2);
        due("take()", x.take(), 0);
        due("look(7)", x.look(SR), TIMER_ON);

        of(where, words, "at once behind one that was TAKEN");
        x = withEntries(0, 1);
        x.take();
        due("take()", x.take(), 0);
        due("look(8)", x.look(SAVED), LINES_ON);
        due("look(9)", x.look(TAKEN), 1);
    }

    private static void promise5() {
        String where = "Promise 5";
        of(where, "GOES BACK.", "nothing was TAKEN yet: SR is 0");
        RetiredTimer x = new RetiredTimer();
        x.back();
        due("state", state(x), "0 0 0 0 0 0 0 0 0 0 0 0 ");

        of(where, "GOES BACK.", "twice behind one that was TAKEN");
        x = withEntries(0, 1);
        x.mode(32 + LINES_ON);
        x.take();
        x.back();
        due("look(7)", x.look(SR), 36);
        x.mode(1);
        x.back();
        due("state", state(x), "0 0 0 0 0 -1 1 36 36 1 1 8 0:1 ");

        of(where, "GOES BACK.", "behind two that were TAKEN: to the last alone");
        x = withEntries(0, 1);
        x.take();
        x.mode(1 + LINES_ON);
        x.take();
        x.back();
        due("look(7)", x.look(SR), 5);
        x.back();
        due("look(7)", x.look(SR), 5);
    }

    private static void promise6() {
        String where = "Promise 6";
        String words = "SR is this, of the bits that there are";
        int[] srs = {0, -1, MIN, MAX, 39, ~39, 8, 16, 64, 40};
        for (int sr : srs) {
            of(where, words, "mode(" + sr + ")");
            RetiredTimer x = used();
            x.mode(sr);
            due("look(7)", x.look(SR), sr & 39);
            due("look(8)", x.look(SAVED), 36);
        }
    }

    private static void promise7() {
        String where = "Promise 7";
        of(where, "`void mask(int lines)`: MASK.", "0: no line interrupts");
        RetiredTimer x = withEntries(0, -1);
        x.mask(0);
        due("look(5)", x.look(MASK), 0);
        due("look(11)", x.look(DUE), 0);
        due("take()", x.take(), 0);

        for (int line = 0; line < 32; line++) {
            of(where, "`void mask(int lines)`: MASK.", "line " + line + " alone");
            x = withEntries(0, 1 << line);
            x.mask(1 << line);
            due("look(5)", x.look(MASK), 1 << line);
            due("look(11)", x.look(DUE), 8);
            x.mask(~(1 << line));
            due("look(11) with all others", x.look(DUE), 0);
        }
    }

    private static void promise8Period() {
        String where = "Promise 8";
        String words = "PERIOD (its lowest 28 bits)";
        int[] periods = {0, LONGEST_PERIOD, LONGEST_PERIOD + 1, LONGEST_PERIOD + 2, 1 << 29, -1, MIN, MAX, -LONGEST_PERIOD};
        int[] lowest = {0, LONGEST_PERIOD, 0, 1, 0, LONGEST_PERIOD, 0, LONGEST_PERIOD, 1};
        for (int i = 0; i < periods.length; i++) {
            of(where, words, "timer(" + periods[i] + ", ..)");
            RetiredTimer x = new RetiredTimer();
            x.timer(77, true, false);
            x.timer(periods[i], true, false);
            due("look(2)", x.look(PERIOD), lowest[i]);
        }
    }

    private static void promise8CountingAndPending() {
        String words = "whether it is COUNTING, whether PENDING";
        for (int bits = 0; bits < 4; bits++) {
            boolean counting = (bits & 1) != 0;
            boolean pending = (bits & 2) != 0;
            of("Promise 8", words, "COUNTING " + counting + ", PENDING " + pending + ", when both were otherwise");
            RetiredTimer x = new RetiredTimer();
            x.timer(5, !counting, !pending);
            x.timer(5, counting, pending);
            due("look(4)", x.look(COUNTING), bits & 1);
            due("look(3)", x.look(PENDING), bits >> 1);
        }
    }

    private static void promise8CountStays() {
        String where = "Promise 8";
        of(where, "COUNT stays.", "a PERIOD that COUNT is already: not PENDING");
        RetiredTimer x = counting(10, 7, 0);
        x.timer(7, true, false);
        due("look(1)", x.look(COUNT), 7);
        due("look(3)", x.look(PENDING), 0);

        of(where, "COUNT stays.", "a PERIOD below COUNT");
        x = counting(10, 9, 0);
        x.timer(1, true, false);
        due("look(1)", x.look(COUNT), 9);

        of(where, "COUNT stays.", "a COUNT below 0, and one above every PERIOD");
        x = counting(10, MIN, 0);
        x.timer(0, false, true);
        due("look(1)", x.look(COUNT), MIN);
        x.count(MAX);
        x.timer(-1, true, true);
        due("look(1)", x.look(COUNT), MAX);
    }

    private static void promise9() {
        String where = "Promise 9";
        String words = "`void count(int c)`: COUNT.";
        int[] counts = {MIN, -1, 0, LONGEST_PERIOD + 1, MAX};
        for (int c : counts) {
            of(where, words, "count(" + c + ")");
            RetiredTimer x = counting(5, 3, 0);
            x.count(c);
            due("look(1)", x.look(COUNT), c);
        }

        of(where, words, "the PERIOD itself: not PENDING, and COUNT is not 0");
        RetiredTimer x = counting(5, 3, TIMER_ON);
        x.count(5);
        due("state", state(x), "0 5 5 0 1 0 0 2 0 0 0 0 ");
    }

    private static void promise10() {
        String where = "Promise 10";
        String words = "All as at first.";
        of(where, words, "of a new object");
        RetiredTimer x = new RetiredTimer();
        x.reset();
        due("state", state(x), AS_AT_FIRST);

        of(where, words, "of a used object");
        x = used();
        x.reset();
        due("state", state(x), AS_AT_FIRST);
        due("until()", x.until(), NONE);
        due("linesAt(MAX)", x.linesAt(MAX), 0);
        due("entryOf(0, false)", x.entryOf(0, false), NONE);

        of(where, words, "of a full object: 32 more are taken, from 0 on");
        x = full();
        x.reset();
        for (int i = 0; i < 32; i++) {
            due("entry(" + i + ", 1)", x.entry(i, 1), true);
        }
        due("entry(32, 1)", x.entry(32, 1), false);
        due("look(10)", x.look(ENTRIES), 32);

        of(where, words, "the old entries are not seen behind a new one");
        x = full();
        x.reset();
        x.entry(5, 77);
        x.mask(-1);
        x.mode(LINES_ON);
        due("linesAt(MAX)", x.linesAt(MAX), 77);
        due("entryOf(1, true)", x.entryOf(1, true), NONE);
        x.mask(2);
        due("until()", x.until(), NONE);
    }

    private static void promise11DueAlready() {
        String where = "Promise 11";
        String words = "0 if one is";
        of(where, words, "lines");
        RetiredTimer x = withEntries(0, 1);
        due("until()", x.until(), 0);

        of(where, words, "the timer, not COUNTING any more");
        x = new RetiredTimer();
        x.timer(9, false, true);
        x.mode(TIMER_ON);
        due("until()", x.until(), 0);

        of(where, words, "the timer, COUNTING on");
        x = new RetiredTimer();
        x.timer(9, true, true);
        x.mode(TIMER_ON);
        due("until()", x.until(), 0);

        of(where, words, "lines, with the timer still ahead");
        x = withEntries(0, 1);
        x.timer(9, true, false);
        x.mode(TIMER_ON + LINES_ON);
        due("until()", x.until(), 0);

        of(where, words, "the lines of an entry long ago that still last");
        x = withEntries(1, 1);
        x.mode(0);
        x.steps(20000);
        x.mode(LINES_ON);
        due("until()", x.until(), 0);
    }

    private static void promise11AheadOfLines() {
        String where = "Promise 11";
        String words = "How many STEPS can be done until an INTERRUPT is due";
        of(where, words, "one STEP ahead of the lines, and at them");
        RetiredTimer x = withEntries(10, 1);
        due("until()", x.until(), 10);
        x.steps(9);
        due("until()", x.until(), 1);
        due("steps(20000)", x.steps(20000), 1);
        due("until()", x.until(), 0);

        of(where, words, "the first entry in MASK, not the first nor the last");
        x = withEntries(10, 1, 20, 2, 30, 3);
        x.mask(2);
        due("until()", x.until(), 20);

        of(where, words, "the 32nd entry alone is in MASK");
        x = full();
        x.mask(32);
        x.mode(LINES_ON);
        due("until()", x.until(), 320);

        of(where, words, "lines that are over do not count");
        x = withEntries(0, 1, 5, 0, 50, 1);
        x.mode(0);
        x.steps(5);
        x.mode(LINES_ON);
        due("until()", x.until(), 45);

        of(where, words, "as far as steps goes, of lines that last for one STEP alone");
        x = withEntries(10, 1, 11, 0);
        due("until()", x.until(), 10);
        due("steps(20000)", x.steps(20000), 10);
    }

    private static void promise11AheadOfTheTimer() {
        String where = "Promise 11";
        String words = "How many STEPS can be done until an INTERRUPT is due";
        of(where, words, "one STEP ahead of the timer, and at it");
        RetiredTimer x = counting(10, 9, TIMER_ON);
        due("until()", x.until(), 1);
        x.steps(1);
        due("until()", x.until(), 0);

        of(where, words, "PERIOD 1");
        x = counting(1, 0, TIMER_ON);
        due("until()", x.until(), 1);

        of(where, words, "PERIOD 0 from COUNT -1");
        x = counting(0, -1, TIMER_ON);
        due("until()", x.until(), 1);

        of(where, words, "the longest PERIOD");
        x = counting(-1, 0, TIMER_ON);
        due("until()", x.until(), LONGEST_PERIOD);

        of(where, words, "COUNT below 0");
        x = counting(10, -20000, TIMER_ON);
        due("until()", x.until(), 20010);

        of(where, words, "the nearer of the two, or both");
        x = withEntries(10, 1);
        x.mode(TIMER_ON + LINES_ON);
        x.timer(9, true, false);
        due("until() with PERIOD 9", x.until(), 9);
        x.timer(10, true, false);
        due("until() with PERIOD 10", x.until(), 10);
        x.timer(11, true, false);
        due("until() with PERIOD 11", x.until(), 10);

        of(where, words, "the timer beyond 2^31, lines within");
        x = withEntries(10, 1);
        x.mode(TIMER_ON + LINES_ON);
        x.timer(0, true, false);
        due("until()", x.until(), 10);

        of(where, words, "PENDING without TIMER ON is nothing, the lines are still ahead");
        x = withEntries(10, 1);
        x.timer(0, false, true);
        due("until()", x.until(), 10);
    }

    private static void promise11NoneWillBeDue() {
        String where = "Promise 11";
        String words = "NONE if none will be due as all is now";
        of(where, words, "a new object");
        due("until()", new RetiredTimer().until(), NONE);

        of(where, words, "no entry");
        due("until()", withEntries().until(), NONE);

        of(where, words, "MASK is 0");
        RetiredTimer x = withEntries(10, -1);
        x.mask(0);
        due("until()", x.until(), NONE);

        of(where, words, "no entry is in MASK");
        x = withEntries(10, 1, 20, 2);
        x.mask(~3);
        due("until()", x.until(), NONE);

        of(where, words, "LINES ON is not set");
        x = withEntries(0, 1, 10, 1);
        x.mode(~LINES_ON);
        due("until()", x.until(), NONE);

        of(where, words, "all lines are over");
        x = withEntries(0, 1, 5, 0);
        x.mode(0);
        x.steps(5);
        x.mode(LINES_ON);
        due("until()", x.until(), NONE);

        of(where, words, "not COUNTING, one below PERIOD");
        x = new RetiredTimer();
        x.timer(10, false, false);
        x.count(9);
        x.mode(TIMER_ON);
        due("until()", x.until(), NONE);

        of(where, words, "TIMER ON is not set, COUNTING");
        due("until()", counting(10, 0, ~TIMER_ON).until(), NONE);

        of(where, words, "TIMER ON is not set, PENDING");
        x = new RetiredTimer();
        x.timer(10, true, true);
        x.mode(~TIMER_ON);
        due("until()", x.until(), NONE);

        of(where, words, "steps go on to the full when it says so");
        x = counting(10, 10, TIMER_ON);
        due("until()", x.until(), NONE);
        due("steps(20000)", x.steps(20000), 20000);
    }

    private static void promise11TheLastRetiredByLines() {
        String where = "Promise 11";
        String words = "up to RETIRED 2^31 - 1";
        of(where, words, "lines at 2^31 - 1");
        RetiredTimer x = withEntries(MAX, 1);
        due("until()", x.until(), MAX);
        x.steps(20000);
        due("until() from RETIRED 20000", x.until(), MAX - 20000);
    }

    private static void promise11TheLastRetiredByTheTimer() {
        String where = "Promise 11";
        String words = "up to RETIRED 2^31 - 1";
        of(where, words, "the timer at 2^31 - 1, and one behind");
        RetiredTimer x = counting(0, -MAX, TIMER_ON);
        due("until() at 2^31 - 1", x.until(), MAX);
        x.count(MIN);
        due("until() at 2^31", x.until(), NONE);

        of(where, words, "the timer at 2^31 - 1 from RETIRED 20000, and one behind");
        x = new RetiredTimer();
        x.steps(20000);
        x.timer(0, true, false);
        x.mode(TIMER_ON);
        x.count(-MAX + 20000);
        due("until() at 2^31 - 1", x.until(), MAX - 20000);
        x.count(-MAX + 19999);
        due("until() at 2^31", x.until(), NONE);

        of(where, words, "the timer over the wrap of COUNT is farther than that");
        x = counting(LONGEST_PERIOD, MAX, TIMER_ON);
        due("until() from COUNT 2^31 - 1", x.until(), NONE);
        x.count(LONGEST_PERIOD + 1);
        due("until() from one above PERIOD", x.until(), NONE);

        of(where, words, "COUNT that is PERIOD goes 2^32 STEPS round");
        due("until() at PERIOD 10", counting(10, 10, TIMER_ON).until(), NONE);
        due("until() at PERIOD 0", counting(0, 0, TIMER_ON).until(), NONE);

        of(where, words, "the longest PERIOD from the lowest COUNT that it can still be due from");
        x = counting(-1, MIN + LONGEST_PERIOD + 1, TIMER_ON);
        due("until() at 2^31 - 1", x.until(), MAX);
        x.count(MIN + LONGEST_PERIOD);
        due("until() at 2^31", x.until(), NONE);
        x.count(MIN);
        due("until() from the lowest COUNT", x.until(), NONE);
    }

    private static void promise11NearTheLastRetired() {
        String where = "Promise 11";
        String words = "up to RETIRED 2^31 - 1";
        of(where, words, "near the end of RETIRED");
        RetiredTimer x = farOn();
        x.mode(TIMER_ON);
        x.timer(3647, true, false);
        due("until() at 2^31 - 1", x.until(), 3647);
        x.timer(3648, true, false);
        due("until() at 2^31", x.until(), NONE);

        of(where, words, "at the end of RETIRED");
        x = farOn();
        x.steps(3647);
        x.mode(TIMER_ON);
        x.timer(1, true, false);
        due("until() one STEP ahead", x.until(), NONE);
        x.timer(1, true, true);
        due("until() when it is due", x.until(), 0);
    }

    private static void promise12LinesAt() {
        String where = "Promise 12";
        String words = "LINES as they would be at RETIRED n";
        of(where, words, "no entry");
        RetiredTimer x = new RetiredTimer();
        due("linesAt(0)", x.linesAt(0), 0);
        due("linesAt(MAX)", x.linesAt(MAX), 0);

        of(where, words, "n 0, with an entry at 0 and with none");
        x = withEntries(0, 5);
        due("linesAt(0) with one", x.linesAt(0), 5);
        x = withEntries(1, 5);
        due("linesAt(0) with none", x.linesAt(0), 0);

        of(where, words, "one below a count, at it, one above");
        x = withEntries(10, 5, 20, 6);
        due("linesAt(9)", x.linesAt(9), 0);
        due("linesAt(10)", x.linesAt(10), 5);
        due("linesAt(19)", x.linesAt(19), 5);
        due("linesAt(20)", x.linesAt(20), 6);
        due("linesAt(21)", x.linesAt(21), 6);

        of(where, words, "n 2^31 - 1");
        x = withEntries(10, 5, MAX, 6);
        due("linesAt(MAX - 1)", x.linesAt(MAX - 1), 5);
        due("linesAt(MAX)", x.linesAt(MAX), 6);

        of(where, words, "n that RETIRED is beyond");
        x = withEntries(10, 5, 20, 6);
        x.mode(0);
        x.steps(20000);
        due("linesAt(9)", x.linesAt(9), 0);
        due("linesAt(10)", x.linesAt(10), 5);

        of(where, words, "the 32nd entry");
        x = full();
        due("linesAt(319)", x.linesAt(319), 31);
        due("linesAt(320)", x.linesAt(320), 32);
    }

    private static void promise12Below0() {
        String where = "Promise 12";
        String words = "0 if n is below 0";
        int[] below = {-1, -2, MIN};
        for (int n : below) {
            of(where, words, "n " + n + " with an entry at 0");
            RetiredTimer x = withEntries(0, 5, MAX, 6);
            due("linesAt", x.linesAt(n), 0);
            of(where, words, "n " + n + " without an entry");
            due("linesAt", new RetiredTimer().linesAt(n), 0);
        }
    }

    private static void promise13OfAnEntry() {
        String where = "Promise 13";
        String words = "Of an entry, from 0 on: its count (lines false) or LINES";
        of(where, words, "the first");
        RetiredTimer x = withEntries(4, 11, 40, 12);
        due("entryOf(0, false)", x.entryOf(0, false), 4);
        due("entryOf(0, true)", x.entryOf(0, true), 11);

        of(where, words, "the last");
        due("entryOf(1, false)", x.entryOf(1, false), 40);
        due("entryOf(1, true)", x.entryOf(1, true), 12);

        of(where, words, "the 32nd");
        x = full();
        due("entryOf(31, false)", x.entryOf(31, false), 320);
        due("entryOf(31, true)", x.entryOf(31, true), 32);

        of(where, words, "the lowest count and the highest, the lowest LINES and the highest");
        x = withEntries(0, MIN, MAX, MAX);
        due("entryOf(0, false)", x.entryOf(0, false), 0);
        due("entryOf(0, true)", x.entryOf(0, true), MIN);
        due("entryOf(1, false)", x.entryOf(1, false), MAX);
        due("entryOf(1, true)", x.entryOf(1, true), MAX);
    }

    private static void promise13NoneSuch() {
        String where = "Promise 13";
        String words = "NONE if there is none such";
        of(where, words, "no entry");
        RetiredTimer x = new RetiredTimer();
        due("entryOf(0, false)", x.entryOf(0, false), NONE);
        due("entryOf(0, true)", x.entryOf(0, true), NONE);

        int[] none = {-1, MIN, 2, 31, 32, MAX};
        for (int i : none) {
            of(where, words, "i " + i + " of two");
            x = withEntries(4, 11, 40, 12);
            due("its count", x.entryOf(i, false), NONE);
            due("its LINES", x.entryOf(i, true), NONE);
        }

        int[] noneOfAll = {-1, MIN, 32, 33, MAX};
        for (int i : noneOfAll) {
            of(where, words, "i " + i + " of 32");
            x = full();
            due("its count", x.entryOf(i, false), NONE);
            due("its LINES", x.entryOf(i, true), NONE);
        }

        of(where, words, "one that was refused is none");
        x = withEntries(4, 11, 3, 12);
        due("entryOf(1, false)", x.entryOf(1, false), NONE);
        due("entryOf(1, true)", x.entryOf(1, true), NONE);
    }

    private static void promise14Which() {
        String where = "Promise 14";
        of(where, "which 0: RETIRED", "the lowest which");
        RetiredTimer x = used();
        due("look(0)", x.look(0), 2);

        of(where, "3: 1 if PENDING, else 0", "set, and not");
        due("look(3)", x.look(3), 1);
        x.timer(7, true, false);
        due("look(3)", x.look(3), 0);

        of(where, "4: 1 if COUNTING, else 0", "set, and not");
        due("look(4)", x.look(4), 1);
        x.timer(7, false, true);
        due("look(4)", x.look(4), 0);

        of(where, "6: LINES now", "with no entry, one STEP ahead of one, and at it");
        x = new RetiredTimer();
        due("look(6)", x.look(6), 0);
        x.entry(1, 5);
        due("look(6)", x.look(6), 0);
        x.steps(1);
        due("look(6)", x.look(6), 5);

        of(where, "9: INTERRUPTS that were TAKEN", "none, one, and one that was not due");
        x = withEntries(0, 1);
        due("look(9)", x.look(9), 0);
        x.take();
        due("look(9)", x.look(9), 1);
        x.take();
        due("look(9)", x.look(9), 1);

        of(where, "10: entries", "none, 32, and no more");
        due("look(10)", new RetiredTimer().look(10), 0);
        x = full();
        due("look(10)", x.look(10), 32);
        x.entry(321, 1);
        due("look(10)", x.look(10), 32);

        of(where, "11: the INTERRUPT that is due (0 if none is)", "the highest which: none, lines, timer");
        x = withEntries(1, 1);
        due("look(11)", x.look(11), 0);
        x.steps(1);
        due("look(11)", x.look(11), 8);
        x.timer(0, false, true);
        x.mode(TIMER_ON + LINES_ON);
        due("look(11)", x.look(11), 5);
    }

    private static void promise14AnyOtherWhich() {
        int[] others = {-1, 12, 13, MIN, MAX, 256, 1 << 16};
        for (int which : others) {
            of("Promise 14", "NONE for any other which", "which " + which);
            due("look", used().look(which), NONE);
        }
    }
}
