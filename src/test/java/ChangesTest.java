/** Promises 6 to 8: grow, cut, day. */
public final class ChangesTest {
    private static final int NONE = ValuePlaces.NONE, UNKNOWN = ValuePlaces.UNKNOWN;
    private static final int OUTSIDE = ValuePlaces.OUTSIDE, STATE = ValuePlaces.STATE, FULL = ValuePlaces.FULL;
    private static final Due due = new Due("ChangesTest");

    public static void main(String[] args) {
        grow();
        growRefused();
        cut();
        dayAnswers();
        dayWrong();
        dayRefused();
        due.end();
    }

    private static void grow() {
        ValuePlaces x = Due.of("r;p-");
        due.is("grow", x.grow(1, 0, 0, NONE), 1);
        due.is("grow", x.grow(2, 1, 0, 1), 2);
        due.is("grow", x.grow(0, 1, NONE, NONE), 3);
        due.is("kind", x.ofLine(2, 0), 2);
        due.is("above", x.ofLine(2, 1), 1);
        due.is("how many", x.ofLine(2, 2), 2);
        due.is("place 0", x.used(2, 0), 0);
        due.is("place 1", x.used(2, 1), 1);
        due.is("how many", x.ofLine(1, 2), 1);
        due.is("how many", x.ofLine(3, 2), 0);
        due.is("users of 0", x.ofLine(0, 7), 6);
        due.is("live behind 1", x.ofLine(1, 3), 3);
        x.reading(0, 2);
        due.is("grow", x.grow(0, 3, 3, 0), 4);
        due.is("READINGS stay", x.many(4), 1);
    }

    private static void growRefused() {
        ValuePlaces x = Due.of("r;p-;p0;p0");
        due.is("kind 3", x.grow(3, 9, 9, 9), OUTSIDE);
        due.is("kind -1", x.grow(-1, 0, NONE, NONE), OUTSIDE);
        due.is("above 3", x.grow(0, 3, NONE, NONE), UNKNOWN);
        due.is("above NONE", x.grow(0, NONE, NONE, NONE), UNKNOWN);
        due.is("a 3", x.grow(0, 0, 3, NONE), UNKNOWN);
        due.is("b 3", x.grow(0, 0, 0, 3), UNKNOWN);
        due.is("b -1", x.grow(0, 0, 0, -1), UNKNOWN);
        due.is("b alone", x.grow(0, 0, NONE, 0), UNKNOWN);
        due.is("b alone", x.grow(0, 0, NONE, 2), UNKNOWN);
        due.is("a in another branch", x.grow(0, 1, 2, NONE), STATE);
        due.is("b in another branch", x.grow(0, 1, 1, 2), STATE);
        due.is("both the same", x.grow(0, 1, 1, 1), STATE);
        due.is("how many", x.many(0), 3);
        for (int l = 3; l < 8; l++) {
            due.is("grow", x.grow(0, l - 1, l - 1, 0), l);
        }
        due.is("full", x.grow(0, 7, 7, 0), FULL);
        due.is("above 8", x.grow(0, 8, NONE, NONE), UNKNOWN);
        due.is("a state comes ahead of full", x.grow(0, 7, 7, 7), STATE);
        due.is("how many", x.many(0), 8);
        due.is("grow of none", new ValuePlaces().grow(0, 0, NONE, NONE), UNKNOWN);
    }

    private static void cut() {
        ValuePlaces x = Due.of("r;p-;p00;p110");
        x.reading(2, 0);
        x.reading(1, 1);
        x.reading(2, 5);
        x.reading(0, 7);
        due.is("cut", x.cut(), 2);
        due.is("READINGS of it", x.many(4), 2);
        due.is("users of 0", x.ofLine(0, 7), 2);
        due.is("users of 1", x.ofLine(1, 7), 0);
        due.is("the next READING", x.reading(0, 1), 2);
        due.is("back", x.back(2), 1);
        // Left is that 1 costs 1, which only a BULKY one does that nobody USES.
        due.is("kinds", x.kinds(1), 2);
        due.is("cut", x.cut(), 1);
        due.is("READINGS", x.many(4), 0);
        due.is("the last one", x.cut(), STATE);
        due.is("of none", new ValuePlaces().cut(), STATE);
        due.is("how many", x.many(0), 1);
    }

    /** A chain of six; at first 5 USES 0 and 1, and 3 USES 2. */
    private static ValuePlaces chain() {
        ValuePlaces x = Due.of("r;p-;p0;p1;p22;p3;p401");
        Due.row(x, 0, 0, 5, 0, 4, 5, 1, 3, 3, 0, 0);
        return x;
    }

    private static void dayAnswers() {
        ValuePlaces x = chain();
        int[] questions = {0, 1, 2, 3, 4, 10, 11, 12, 13, 14, 15, 16, 17};
        // Of 0 acts: 0, 1 live to the end, 2 till 3.
        int[] before = {3, NONE, 3, 0, 7, 0, 1, 2, 2, 2, 0, NONE, NONE};
        // Of 1 act (5 USES 4, 1).
        int[] one = {2, NONE, 2, 0, 3, 0, 0, 1, 1, 1, 0, NONE, NONE};
        // Of 3 acts (5 USES 4, 3; 3 USES 0).
        int[] three = {2, NONE, 2, 0, 3, 0, 1, 1, 0, 1, 0, NONE, NONE};
        for (int q = 0; q < questions.length; q++) {
            due.is("0 acts, " + questions[q], x.day(0, 0, 0, 0, questions[q]), before[q]);
            due.is("1 act, " + questions[q], x.day(0, 0, 0, 1, questions[q]), one[q]);
            due.is("3 acts, " + questions[q], x.day(0, 0, 0, 3, questions[q]), three[q]);
        }
        due.is("nothing is changed", x.used(5, 0), 0);
        due.is("nothing is changed", x.most(2), 7);
        due.is("0 acts at the end", x.day(0, 0, 9, 0, 0), 3);
        due.is("from 3 on", x.day(0, 0, 3, 2, 1), NONE);
        ValuePlaces y = Due.of("r;p-;p0;p1;p2;p310;p432;p510;p653");
        Due.row(y, 0, 2, 7, 0, 2);
        due.is("spilled", y.day(0, 2, 0, 0, 3), 38);
        due.is("spilled", y.day(0, 2, 0, 1, 3), 14);
        due.is("colour of 7", y.day(0, 2, 0, 1, 17), 0);
    }

    private static void dayWrong() {
        ValuePlaces x = chain();
        // A swap can't be done at once: the other USED one stands in the way.
        Due.row(x, 1, 1, 5, 0, 1, 5, 1, 0);
        due.is("first wrong", x.day(1, 1, 0, 2, 1), 0);
        due.is("first wrong", x.day(1, 1, 0, 2, 0), -100);
        // By a third one it can.
        Due.row(x, 1, 1, 5, 0, 4, 5, 1, 0, 5, 0, 1, 5, 1, 1);
        due.is("first wrong", x.day(1, 1, 0, 3, 1), NONE);
        due.is("first wrong", x.day(1, 1, 0, 4, 1), 3);
        int[] questions = {0, 2, 3, 4, 10, 15, 16, 17};
        for (int what : questions) {
            due.is("wrong, " + what, x.day(1, 1, 0, 4, what), -103);
        }
        due.is("a wrong day is no FAULT", x.fault(), 0);
        int[][] acts = {{6, 0, 0}, {-1, 0, 0}, {5, 2, 2}, {5, -1, 2}, {3, 1, 0}, {0, 0, 0}, {5, 0, 5}, {5, 0, 6},
            {5, 0, -1}, {3, 0, 4}, {5, 1, 0}, {Integer.MAX_VALUE, 0, 0}, {5, Integer.MIN_VALUE, 0},
            {5, 0, Integer.MIN_VALUE}};
        for (int[] act : acts) {
            Due.row(x, 2, 2, 3, 0, 2, act[0], act[1], act[2]);
            due.is("act of " + act[0] + " " + act[1] + " " + act[2], x.day(2, 2, 0, 2, 1), 1);
            due.is("act of " + act[0] + " " + act[1] + " " + act[2], x.day(2, 2, 0, 2, 17), -101);
        }
        // 20 acts are as many as there can be.
        int[] row = new int[60];
        for (int act = 0; act < 20; act++) {
            row[3 * act] = 5;
            row[3 * act + 2] = act % 2 == 0 ? 2 : 3;
        }
        row[57] = 6;
        Due.row(x, 2, 0, row);
        due.is("the last one of 20", x.day(2, 0, 0, 20, 0), -119);
        due.is("19 of them", x.day(2, 0, 0, 19, 1), NONE);
    }

    private static void dayRefused() {
        ValuePlaces x = chain();
        due.is("no sheet", x.day(4, 9, 0, 99, 99), UNKNOWN);
        due.is("no sheet", x.day(-1, 0, 0, 0, 0), UNKNOWN);
        due.is("lane", x.day(0, 3, 0, 0, 0), OUTSIDE);
        due.is("lane", x.day(0, -1, 0, 0, 0), OUTSIDE);
        due.is("n", x.day(0, 0, 0, -1, 0), OUTSIDE);
        due.is("n", x.day(0, 0, 0, 21, 0), OUTSIDE);
        for (int what : new int[] {-1, 5, 9, 18}) {
            due.is("what", x.day(0, 1, 0, 0, what), OUTSIDE);
        }
        due.is("fault", x.fault(), 0);
        due.is("cast", x.day(0, 1, 99, 0, 0), -12);
        due.is("fault", x.fault(), 2);
        due.is("null", x.day(1, 1, 99, 0, 0), -11);
        due.is("fault", x.fault(), 1);
        due.is("index", x.day(0, 0, 0, 4, 0), -13);
        due.is("fault", x.fault(), 3);
        due.is("index", x.day(0, 0, 1, 3, 0), -13);
        due.is("index", x.day(0, 0, 10, 0, 0), -13);
        due.is("index", x.day(0, 0, -1, 0, 0), -13);
        due.is("index", x.day(0, 0, Integer.MAX_VALUE, 20, 0), -13);
        ValuePlaces y = new ValuePlaces();
        Due.row(y, 0, 0, 1, 2, 3);
        due.is("index comes first", y.day(0, 0, 1, 1, 0), -13);
        due.is("no lines", y.day(0, 0, 0, 1, 0), STATE);
        due.is("fault", y.fault(), 0);
        due.is("no lines", y.day(0, 0, 0, 0, 1), STATE);
    }
}
