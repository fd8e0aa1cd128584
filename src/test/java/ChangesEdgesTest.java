/** The edges of part 2 of the document: LINES that change, DAYS, and promises 6 to 8. */
public final class ChangesEdgesTest {
    private static final int UNKNOWN = ValuePlaces.UNKNOWN, OUTSIDE = ValuePlaces.OUTSIDE;
    private static final int STATE = ValuePlaces.STATE, FULL = ValuePlaces.FULL, NONE = ValuePlaces.NONE;
    private static final int LEAST = Due.LEAST, GREATEST = Due.GREATEST;
    private static final int NULL = 1, CAST = 2, INDEX = 3;
    private static final int[] QUESTIONS = {0, 1, 2, 3, 4, 10, 11, 12, 13, 14, 15, 16, 17};

    /** A chain of eight, of which the last three USE what is told at first. */
    private static final String CHAIN = "r;p-;p0;p1;p2;p3;p401;p523;p64";

    private static final Due due = new Due("ChangesEdgesTest");

    public static void main(String[] args) {
        grow();
        growOnWhatWasCut();
        growRefused();
        growState();
        growFull();
        cut();
        cutReadings();
        cutRefused();
        dayOneBehindAnother();
        dayChangesNothing();
        dayFirstWrong();
        dayOfCells();
        dayAnswers();
        dayOfNoSuchValue();
        dayWithAFirstWrong();
        dayRefused();
        dayFaults();
        dayWithoutLines();
        due.end();
    }

    // ---- Promise 6

    private static void grow() {
        due.says(6, "A LINE is put on at the end, right below one, that USES a, b (NONE: none; b NONE, if a is): "
            + "its number.");
        ValuePlaces x = Due.of("r;p-");
        int[][] grown = {{0, 0, NONE, NONE}, {1, 1, 1, NONE}, {2, 2, 0, 2}, {0, 0, 0, NONE}, {1, 3, 3, 1},
            {2, 5, NONE, NONE}, {2, 6, 6, 0}};
        for (int n = 0; n < 7; n++) {
            int[] g = grown[n];
            int uses = g[2] == NONE ? 0 : g[3] == NONE ? 1 : 2;
            due.is("grow " + n, x.grow(g[0], g[1], g[2], g[3]), n + 1);
            due.is("LINES", x.many(0), n + 2);
            due.is("kind", x.ofLine(n + 1, 0), g[0]);
            due.is("above", x.ofLine(n + 1, 1), g[1]);
            due.is("how many it USES", x.ofLine(n + 1, 2), uses);
            due.is("place 0", x.used(n + 1, 0), uses > 0 ? g[2] : UNKNOWN);
            due.is("place 1", x.used(n + 1, 1), uses > 1 ? g[3] : UNKNOWN);
        }
        due.is("users of 0", x.ofLine(0, 7), 1 << 3 | 1 << 4 | 1 << 7);
    }

    private static void growOnWhatWasCut() {
        due.says(0, "LINES are put on, taken away, USE other VALUES.");
        ValuePlaces x = Due.of("r;p-;p0;d110");
        due.is("cut", x.cut(), 2);
        due.is("grow", x.grow(0, 0, NONE, NONE), 2);
        due.is("kind", x.ofLine(2, 0), 0);
        due.is("above", x.ofLine(2, 1), 0);
        due.is("how many it USES", x.ofLine(2, 2), 0);
        due.is("place 0", x.used(2, 0), UNKNOWN);
        due.is("users of 0", x.ofLine(0, 7), 0);
        due.is("users of 1", x.ofLine(1, 7), 0);
        due.is("it is not below 1 now", x.next(1, 2), STATE);
        due.is("one below it", x.grow(0, 2, 2, 0), 3);
        due.is("1 is not above that", x.reuse(3, 0, 1), STATE);
        due.is("0 is its other one", x.reuse(3, 0, 0), STATE);
    }

    private static void growRefused() {
        ValuePlaces x = Due.of("r;p-;p0;p1");
        due.says(6, "OUTSIDE: kind (0 .. 2)");
        due.all("kind", kind -> x.grow(kind, 0, NONE, NONE), OUTSIDE, LEAST, -1, 3, GREATEST);
        due.is("kind 0", x.grow(0, 0, NONE, NONE), 3);
        due.is("kind 2", x.grow(2, 0, NONE, NONE), 4);
        x.cut();
        x.cut();
        due.says(6, "UNKNOWN: above, a, b (of those that are not NONE; a NONE and b not, too)");
        due.all("above", above -> x.grow(0, above, NONE, NONE), UNKNOWN, LEAST, NONE, -1, 3, 8, GREATEST);
        due.all("a", a -> x.grow(0, 2, a, NONE), UNKNOWN, LEAST, -10, -8, -1, 3, 8, GREATEST);
        due.all("b", b -> x.grow(0, 2, 0, b), UNKNOWN, LEAST, -10, -8, -1, 3, 8, GREATEST);
        due.all("b without a", b -> x.grow(0, 2, NONE, b), UNKNOWN, LEAST, -1, 0, 1, 2, 3, GREATEST);
        due.is("nothing was put on", x.many(0), 3);
        due.is("the last one above", x.grow(0, 2, 2, NONE), 3);
    }

    private static void growState() {
        due.says(6, "STATE: it would not be BELOW a, b");
        ValuePlaces x = Due.of("r;p-;p0;p0;p1");
        due.is("a in another branch", x.grow(0, 3, 2, NONE), STATE);
        due.is("a in another branch, b above", x.grow(0, 3, 2, 0), STATE);
        due.is("b in another branch", x.grow(0, 3, 3, 2), STATE);
        due.is("a below the one above", x.grow(0, 1, 3, NONE), STATE);
        due.is("b below the one above", x.grow(0, 0, 0, 1), STATE);
        due.says(6, "both are the same");
        due.is("both", x.grow(0, 3, 1, 1), STATE);
        due.is("both, right above", x.grow(0, 3, 3, 3), STATE);
        due.is("nothing was put on", x.many(0), 4);
        due.is("both none", x.grow(0, 3, NONE, NONE), 4);
        due.is("the one above, the first one", x.grow(0, 3, 3, 0), 5);
    }

    private static void growFull() {
        due.says(6, "FULL: there are 8.");
        ValuePlaces x = Due.of("r;p-;p0;p1;p2;p3;p4;p5");
        due.is("the eighth", x.grow(2, 6, 0, 6), 7);
        due.is("a ninth", x.grow(2, 7, 0, 7), FULL);
        due.is("a ninth that USES none", x.grow(0, 0, NONE, NONE), FULL);
        due.is("LINES", x.many(0), 8);
        due.is("users of 7", x.ofLine(7, 7), 0);
        due.is("cut", x.cut(), 7);
        due.is("the eighth again", x.grow(0, 0, NONE, NONE), 7);
        ValuePlaces read = Due.of(CHAIN);
        due.is("a ninth behind a TEXT", read.grow(0, 0, NONE, NONE), FULL);
    }

    // ---- Promise 7

    private static void cut() {
        due.says(7, "The last LINE is taken away");
        ValuePlaces x = Due.of(CHAIN);
        // Without 7 nobody USES 4, which is LIVE behind its own LINE with 0 to 3; without 6 those are 0 and 1.
        int[] users0 = {32, 32, 0, 0, 0, 0, 0};
        int[] pressure = {5, 3, 1, 1, 1, 1, 1};
        for (int left = 7; left >= 1; left--) {
            due.is("left", x.cut(), left);
            due.is("LINES", x.many(0), left);
            due.is("the last one stays", x.ofLine(left - 1, 0), 0);
            due.is("it is gone", x.ofLine(left, 0), UNKNOWN);
            due.is("users of 0", x.ofLine(0, 7), users0[7 - left]);
            due.is("pressure", x.most(0), pressure[7 - left]);
        }
    }

    private static void cutReadings() {
        due.says(7, "(READINGS of its VALUE, too): how many are left.");
        // Of 8 READINGS, those of 2 stand first, in the middle and last.
        ValuePlaces x = Due.of("r;b-;b0;b1");
        int[] values = {2, 2, 0, 2, 1, 2, 0, 2};
        for (int v : values) {
            x.reading(v, 1);
        }
        due.is("left", x.cut(), 2);
        due.is("READINGS", x.many(4), 3);
        // Left are 0, 1, 0, all right: BULKY ones that nobody USES.
        due.is("kinds of 0", x.kinds(0), 2);
        due.is("kinds of 1", x.kinds(1), 2);
        due.is("back", x.back(1), 2);
        due.is("kinds of 0", x.kinds(0), 2);
        due.is("back", x.back(1), 1);
        due.is("kinds of 1", x.kinds(1), 7);
        due.is("kinds of 0", x.kinds(0), 2);
        // A LINE that is put on then has none of the old ones.
        due.is("grow", x.grow(0, 0, NONE, NONE), 2);
        due.is("READINGS", x.many(4), 1);
        due.is("kinds of 2", x.kinds(2), 7);
        due.is("the next READING", x.reading(2, 0), 1);
        due.is("left", x.cut(), 2);
        due.is("READINGS", x.many(4), 1);
        // What is left keeps its own c: 0 costs 1, 1 costs 0, as a PLAIN one that 1 USES, and one that nobody USES.
        ValuePlaces z = Due.of("r;p-;p00;p1");
        z.reading(2, 9);
        z.reading(0, 1);
        z.reading(2, 8);
        z.reading(1, 0);
        due.is("left", z.cut(), 2);
        due.is("READINGS", z.many(4), 2);
        due.is("kinds of 0", z.kinds(0), 1);
        due.is("kinds of 1", z.kinds(1), 5);
        due.is("firsts of 1", z.firsts(1), 1);
        due.is("back", z.back(1), 1);
        due.is("kinds of 0", z.kinds(0), 1);
        due.is("kinds of 1", z.kinds(1), 7);
        // Of all 8.
        ValuePlaces y = Due.of("r;p-;p0");
        for (int n = 0; n < 8; n++) {
            y.reading(1, 0);
        }
        due.is("left", y.cut(), 1);
        due.is("READINGS", y.many(4), 0);
        due.is("the first READING", y.reading(0, 0), 0);
    }

    private static void cutRefused() {
        due.says(7, "STATE: there is one at most.");
        due.is("there is none", new ValuePlaces().cut(), STATE);
        ValuePlaces x = Due.of("r;d-");
        x.reading(0, 3);
        due.is("there is one", x.cut(), STATE);
        due.is("LINES", x.many(0), 1);
        due.is("READINGS", x.many(4), 1);
        due.is("kind", x.ofLine(0, 0), 2);
        x.grow(0, 0, NONE, NONE);
        due.is("there are two", x.cut(), 1);
        due.is("there is one", x.cut(), STATE);
    }

    // ---- DAYS

    private static ValuePlaces told(String text, int... acts) {
        ValuePlaces x = Due.of(text);
        Due.row(x, 0, 2, acts);
        return x;
    }

    private static int wrong(String text, int... acts) {
        return told(text, acts).day(0, 2, 0, acts.length / 3, 1);
    }

    private static void dayOneBehindAnother() {
        due.says(0, "A DAY told: a row of threes, one behind another, from how all is now");
        // 7 USES 4; 5 USES 0 and 1.
        due.is("0 can't, as 1 is the other one", wrong(CHAIN, 5, 0, 1), 0);
        due.is("it can, once that is another", wrong(CHAIN, 5, 1, 2, 5, 0, 1), NONE);
        due.is("it can't any more", wrong(CHAIN, 5, 1, 2, 5, 0, 2), 1);
        due.is("a third one in between", wrong(CHAIN, 5, 0, 4, 5, 1, 0, 5, 0, 1), NONE);
        due.is("the latest one counts", told(CHAIN, 7, 0, 6, 7, 0, 5).day(0, 2, 0, 2, 4), 13);
        ValuePlaces x = told(CHAIN, 5, 0, 1, 5, 1, 2);
        due.is("from how all is now", x.day(0, 2, 0, 1, 1), 0);
        x.reuse(5, 1, 3);
        due.is("from how all is now", x.day(0, 2, 0, 2, 1), NONE);
        due.says(0, "a LINE, a place (0, 1), a VALUE: USED one in that place of the LINE becomes that VALUE.");
        // 6 needs 2 no more, or it needs 3 no more.
        due.is("place 0", told(CHAIN, 6, 0, 5).day(0, 2, 0, 1, 15), 0);
        due.is("place 0, twos", told(CHAIN, 6, 0, 4).day(0, 2, 0, 1, 4), 11);
        due.is("place 1, twos", told(CHAIN, 6, 1, 5).day(0, 2, 0, 1, 4), 12);
    }

    private static void dayChangesNothing() {
        due.says(0, "(nothing is changed)");
        ValuePlaces x = told(CHAIN, 5, 0, 4, 6, 1, 5, 7, 0, 0);
        x.reading(0, 1);
        for (int what : QUESTIONS) {
            x.day(0, 2, 0, 3, what);
        }
        due.is("used", x.used(5, 0), 0);
        due.is("used", x.used(6, 1), 3);
        due.is("used", x.used(7, 0), 4);
        due.is("users of 0", x.ofLine(0, 7), 32);
        due.is("twos", x.most(2), 14);
        due.is("READINGS", x.many(4), 1);
        due.is("kinds", x.kinds(0), 1);
        due.is("cell", x.cell(0, 8, 2), 0);
        due.is("the same again", x.day(0, 2, 0, 3, 1), NONE);
    }

    private static void dayFirstWrong() {
        due.says(0, "FIRST WRONG: the first act that can't be");
        due.is("none told", wrong(CHAIN), NONE);
        due.is("one told", wrong(CHAIN, 8, 0, 0), 0);
        due.is("two wrong", wrong(CHAIN, 7, 0, 0, 8, 0, 0, 9, 0, 0), 1);
        due.is("those ahead of it were done", wrong(CHAIN, 5, 0, 2, 5, 1, 2, 5, 1, 0), 1);
        due.says(0, "(there is no such LINE");
        for (int l : new int[] {LEAST, NONE, -1, 8, 9, GREATEST}) {
            due.is("line " + l, wrong(CHAIN, l, 0, 0), 0);
        }
        due.is("the last LINE", wrong(CHAIN, 7, 0, 0), NONE);
        due.is("LINE 1 of one", wrong("r;p-", 1, 0, 0), 0);
        due.says(0, "it has no such place");
        for (int i : new int[] {LEAST, -1, 2, GREATEST}) {
            due.is("place " + i + " of two", wrong(CHAIN, 5, i, 4), 0);
        }
        due.is("place 1 of two", wrong(CHAIN, 5, 1, 4), NONE);
        due.is("place 1 of one", wrong(CHAIN, 7, 1, 0), 0);
        due.is("place 0 of none", wrong(CHAIN, 4, 0, 0), 0);
        due.is("place 0 of LINE 0", wrong("r;p-", 0, 0, 0), 0);
        due.says(0, "it is not BELOW that VALUE");
        for (int v : new int[] {LEAST, NONE, -1, 7, 8, GREATEST}) {
            due.is("value " + v, wrong(CHAIN, 7, 0, v), 0);
        }
        due.is("right above", wrong(CHAIN, 7, 0, 6), NONE);
        due.is("itself", wrong(CHAIN, 5, 0, 5), 0);
        due.is("right below", wrong(CHAIN, 5, 0, 6), 0);
        due.is("another branch", wrong("r;p-;p0;p0;p11", 3, 0, 2), 0);
        due.says(0, "its other USED one is that)");
        due.is("place 0", wrong(CHAIN, 5, 0, 1), 0);
        due.is("place 1", wrong(CHAIN, 5, 1, 0), 0);
        due.is("what it is, place 0", wrong(CHAIN, 5, 0, 0), NONE);
        due.is("what it is, place 1", wrong(CHAIN, 5, 1, 1), NONE);
    }

    // ---- Promise 8

    private static void dayOfCells() {
        due.says(8, "A DAY of n threes, that are cells of a SHEET from i on (3 n)");
        int[] row = new int[60];
        for (int act = 0; act < 20; act++) {
            row[3 * act] = 7;
            row[3 * act + 2] = act % 7;
        }
        for (int k = 0; k < 4; k++) {
            for (int lane = 0; lane < 3; lane++) {
                ValuePlaces x = Due.of(CHAIN);
                row[59] = 5;
                Due.row(x, k, lane, row);
                due.is("all 20", x.day(k, lane, 0, 20, 1), NONE);
                x.put(k, 59, 7);
                due.is("the last of 20", x.day(k, lane, 0, 20, 1), 19);
                due.is("19 of them", x.day(k, lane, 0, 19, 1), NONE);
                due.is("19 from 3 on", x.day(k, lane, 3, 19, 1), 18);
                due.is("one, the last", x.day(k, lane, 57, 1, 1), 0);
                due.is("none behind it", x.day(k, lane, 60, 0, 1), NONE);
                due.is("from 2 on the first is a VALUE", x.day(k, lane, 2, 1, 1), 0);
            }
        }
    }

    /** The same acts done by reuse tell what is due behind them. */
    private static void then(String text, int... acts) {
        ValuePlaces x = told(text, acts);
        ValuePlaces y = Due.of(text);
        for (int act = 0; act < acts.length; act += 3) {
            y.reuse(acts[act], acts[act + 1], acts[act + 2]);
        }
        int n = acts.length / 3;
        due.is("greatest PRESSURE", x.day(0, 2, 0, n, 0), y.most(0));
        due.is("FIRST WRONG", x.day(0, 2, 0, n, 1), NONE);
        due.is("COLOURS", x.day(0, 2, 0, n, 2), y.most(1));
        due.is("SPILLED", x.day(0, 2, 0, n, 3), y.hold(3, 0));
        due.is("twos", x.day(0, 2, 0, n, 4), y.most(2));
        for (int v = 0; v < 8; v++) {
            due.is("COLOUR of " + v, x.day(0, 2, 0, n, 10 + v), v < y.many(0) ? y.ofLine(v, 5) : NONE);
        }
    }

    private static void dayAnswers() {
        due.says(8, "the greatest PRESSURE then (what 0), its FIRST WRONG (1; NONE), how many COLOURS there are then (2), "
            + "VALUES that are SPILLED with 3 PLACES then, as a set (3), how many twos CROSS then (4), "
            + "COLOUR of VALUE v then (10 and v;");
        ValuePlaces x = told(CHAIN, 6, 1, 2, 5, 0, 3, 5, 1, 4, 6, 0, 5);
        int[] before = {5, NONE, 5, 12, 14, 0, 1, 2, 3, 4, 0, 0, 0};
        for (int q = 0; q < QUESTIONS.length; q++) {
            due.is("none done, what " + QUESTIONS[q], x.day(0, 2, 0, 0, QUESTIONS[q]), before[q]);
        }
        due.is("a FIRST WRONG", told(CHAIN, 5, 0, 3, 5, 1, 4, 6, 1, 2).day(0, 2, 0, 3, 1), 2);
        // 5 USES 3 and 4, 6 USES 5 and 2, 7 USES 4.
        ValuePlaces y = told(CHAIN, 5, 0, 3, 5, 1, 4, 6, 0, 5, 6, 1, 2);
        int[] behind = {3, NONE, 3, 0, 6, 0, 0, 0, 1, 2, 1, 0, 0};
        for (int q = 0; q < QUESTIONS.length; q++) {
            due.is("four done, what " + QUESTIONS[q], y.day(0, 2, 0, 4, QUESTIONS[q]), behind[q]);
        }
        then(CHAIN);
        then(CHAIN, 7, 0, 0);
        then(CHAIN, 7, 0, 6, 6, 1, 0);
        then(CHAIN, 5, 0, 3, 5, 1, 4, 6, 0, 5, 6, 1, 2);
        then("r;p-;p0;p1;p2;p310;p432;p510;p653", 7, 0, 2);
        then("r;d-");
        then("r;p-;p0;p10", 2, 0, 1);
    }

    private static void dayOfNoSuchValue() {
        due.says(8, "NONE: there is no such VALUE)");
        for (int n = 1; n <= 8; n++) {
            ValuePlaces x = Due.of("r;p-;p0;p1;p2;p3;p4;p5;p6".substring(0, 1 + 3 * n));
            x.sheet(0, 0, 0);
            for (int v = 0; v < 8; v++) {
                due.is("of " + n + ", value " + v, x.day(0, 0, 0, 0, 10 + v), v < n ? 0 : NONE);
            }
        }
    }

    private static void dayWithAFirstWrong() {
        due.says(8, "of one with a FIRST WRONG: -100 less that (but what 1).");
        ValuePlaces x = told("r;p-;p00", 1, 0, 0, 1, 0, 1);
        for (int what : QUESTIONS) {
            due.is("what " + what, x.day(0, 2, 0, 2, what), what == 1 ? 1 : -101);
            due.is("from the second on, what " + what, x.day(0, 2, 3, 1, what), what == 1 ? 0 : -100);
            due.is("it is no FAULT", x.fault(), 0);
        }
    }

    private static void dayRefused() {
        ValuePlaces x = Due.of(CHAIN);
        for (int k = 0; k < 4; k++) {
            x.sheet(k, 0, 60);
        }
        due.says(8, "UNKNOWN: SHEET");
        due.all("sheet", k -> x.day(k, 0, 0, 0, 0), 5, 0, 3);
        due.all("sheet", k -> x.day(k, 0, 0, 0, 0), UNKNOWN, LEAST, -1, 4, GREATEST);
        due.says(8, "OUTSIDE: lane, n (0 .. 20), what (0 .. 4, 10 .. 17)");
        due.all("lane", lane -> x.day(0, lane, 0, 0, 0), OUTSIDE, LEAST, -1, 3, GREATEST);
        due.all("n", n -> x.day(0, 0, 0, n, 0), OUTSIDE, LEAST, -20, -1, 21, 1431655766, GREATEST);
        due.all("n", n -> x.day(0, 0, 0, n, 1), 0, 1, 20);
        due.is("n of 0", x.day(0, 0, 0, 0, 1), NONE);
        due.all("what", what -> x.day(0, 0, 0, 0, what), OUTSIDE, LEAST, -1, 5, 9, 18, GREATEST);
        due.is("what 4", x.day(0, 0, 0, 0, 4), 14);
        due.is("what 10", x.day(0, 0, 0, 0, 10), 0);
        due.is("what 17", x.day(0, 0, 0, 0, 17), 0);
    }

    private static void dayFaults() {
        due.says(8, "FAULTS CAST, NULL, INDEX");
        ValuePlaces x = Due.of("r;p-;p00");
        for (int had = 0; had < 3; had++) {
            Due.row(x, 0, had, 1, 0, 0, 1, 0, 0);
            for (int lane = 0; lane < 3; lane++) {
                due.is("lane " + lane + " of " + had, x.day(0, lane, 0, 2, 1), lane == had ? NONE : -12);
                due.is("fault", x.fault(), lane == had ? 0 : CAST);
            }
            x.lose(0);
            due.fails(x, "nothing, lane", lane -> x.day(0, lane, 0, 0, 0), NULL, 0, 1, 2);
        }
        Due.row(x, 0, 0, 1, 0, 0, 1, 0, 0, 1);
        due.is("six of seven", x.day(0, 0, 0, 2, 1), NONE);
        due.is("six of seven, the last", x.day(0, 0, 1, 2, 1), 0);
        due.fails(x, "n", n -> x.day(0, 0, 0, n, 1), INDEX, 3, 20);
        due.fails(x, "i, of two", i -> x.day(0, 0, i, 2, 1), INDEX, LEAST, -1, 2, GREATEST);
        due.fails(x, "i, of none", i -> x.day(0, 0, i, 0, 1), INDEX, LEAST, -1, 8, GREATEST);
        due.is("none at the end", x.day(0, 0, 7, 0, 1), NONE);
        due.is("fault", x.fault(), 0);
        x.sheet(0, 0, 0);
        due.is("none of a row of none", x.day(0, 0, 0, 0, 0), 1);
        due.fails(x, "one of a row of none", n -> x.day(0, 0, 0, n, 0), INDEX, 1);
    }

    private static void dayWithoutLines() {
        due.says(8, "STATE: there are no LINES.");
        ValuePlaces x = new ValuePlaces();
        Due.row(x, 0, 0, 0, 0, 0);
        for (int what : QUESTIONS) {
            due.is("no act, what " + what, x.day(0, 0, 0, 0, what), STATE);
            due.is("one act, what " + what, x.day(0, 0, 0, 1, what), STATE);
            due.is("fault", x.fault(), 0);
        }
        Due.read(x, "r;p-");
        due.is("one LINE", x.day(0, 0, 0, 0, 0), 1);
    }
}
