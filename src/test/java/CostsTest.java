/** Promises 14 to 18: reading, back, kinds, firsts, odds. */
public final class CostsTest {
    private static final int UNKNOWN = ValuePlaces.UNKNOWN, OUTSIDE = ValuePlaces.OUTSIDE;
    private static final int STATE = ValuePlaces.STATE, FULL = ValuePlaces.FULL;
    private static final long LOST = ValuePlaces.LOST;
    private static final Due due = new Due("CostsTest");

    public static void main(String[] args) {
        reading();
        back();
        kinds();
        firsts();
        odds();
        due.end();
    }

    private static void reading() {
        ValuePlaces x = Due.of("r;p-;p0");
        due.is("no value", x.reading(2, 99), UNKNOWN);
        due.is("no value", x.reading(-1, 0), UNKNOWN);
        due.is("c", x.reading(0, 21), OUTSIDE);
        due.is("c", x.reading(0, -1), OUTSIDE);
        for (int number = 0; number < 8; number++) {
            due.is("number", x.reading(number % 2, number % 2 == 0 ? 20 : 0), number);
        }
        due.is("full", x.reading(0, 0), FULL);
        due.is("c comes first", x.reading(0, 21), OUTSIDE);
        due.is("how many", x.many(4), 8);
    }

    private static void back() {
        ValuePlaces x = Due.of("r;p-;p0");
        due.is("none", x.back(0), 0);
        due.is("too many", x.back(1), OUTSIDE);
        x.reading(0, 0);
        x.reading(0, 1);
        x.reading(0, 2);
        due.is("below 0", x.back(-1), OUTSIDE);
        due.is("too many", x.back(4), OUTSIDE);
        due.is("none", x.back(0), 3);
        due.is("kinds", x.kinds(0), 0);
        due.is("the last two", x.back(2), 1);
        // Left is the first: it costs 0, as a PLAIN and as a DOUBLE one.
        due.is("kinds", x.kinds(0), 5);
        due.is("the next", x.reading(0, 1), 1);
        due.is("all", x.back(2), 0);
        due.is("kinds", x.kinds(0), 7);
        due.is("of no lines", new ValuePlaces().back(0), 0);
    }

    private static void kinds() {
        // 0 is USED once, 1 twice: as PLAIN, BULKY, DOUBLE it costs 1 2 2, 2 3 4.
        ValuePlaces x = Due.of("r;d-;p00;p11;p21");
        due.is("no readings", x.kinds(0), 7);
        x.reading(0, 2);
        due.is("both", x.kinds(0), 6);
        due.is("the others are so", x.kinds(1), 7);
        x.reading(1, 3);
        due.is("1 is PLAIN", x.kinds(0), 0);
        due.is("BULKY", x.kinds(1), 2);
        due.is("any of another", x.kinds(2), 0);
        due.is("kept as it is", x.ofLine(0, 0), 2);
        x.back(1);
        x.reading(1, 4);
        due.is("DOUBLE", x.kinds(1), 4);
        x.back(2);
        x.reading(1, 2);
        due.is("PLAIN", x.kinds(1), 1);
        due.is("no value", x.kinds(4), UNKNOWN);
        due.is("no value", x.kinds(-1), UNKNOWN);
    }

    private static void firsts() {
        ValuePlaces x = Due.of("r;p-;p0;p1;p0;p221");
        due.is("all above but its other one", x.firsts(4), 5);
        due.is("it uses none", x.firsts(0), STATE);
        due.is("it uses none", x.firsts(3), STATE);
        due.is("no line", x.firsts(5), UNKNOWN);
        due.is("no line", x.firsts(-1), UNKNOWN);
        x.reading(0, 1);
        due.is("0 is used once", x.firsts(4), 1);
        x.reading(2, 0);
        due.is("2 never", x.firsts(4), 1);
        x.reading(2, 1);
        due.is("both can't be", x.firsts(4), 0);
        due.is("kept as it is", x.used(4, 0), 2);
        x.back(3);
        x.reading(1, 1);
        due.is("1 is used as its other one", x.firsts(4), 5);
        x = Due.of("r;p-;p0;b1;p22");
        due.is("all above", x.firsts(3), 7);
        x.reading(2, 2);
        due.is("as it is", x.firsts(3), 4);
        x.back(1);
        x.reading(2, 1);
        due.is("another one", x.firsts(3), 3);
        x.reading(1, 1);
        due.is("1", x.firsts(3), 2);
    }

    private static void share(String text, long upper, long lower) {
        ValuePlaces x = Due.of(text);
        due.is("upper of " + text, x.odds(0), upper);
        due.is("lower of " + text, x.odds(1), lower);
    }

    private static void odds() {
        share("r;p-;p0", 0, 1);
        share("r;p-;p0;p10", 1, 3);
        share("r;p-;p0;p1;p201", 1, 2);
        share("r;p-;p0;p1;p2;p301;p423", 8, 15);
        share("r;p-;p0;p10;p21", 1, 3);
        share("r;p-;b00;p110;d21;p20;p42;b110;p60", 5, 28);
        share("r;p-;p0;p1;p2;p3;p4;p5;p6", 0, 1);
        ValuePlaces x = Due.of("r;p-;p0");
        due.is("which", x.odds(2), LOST);
        due.is("which", x.odds(-1), LOST);
        x.cut();
        due.is("one value", x.odds(0), LOST);
        due.is("no value", new ValuePlaces().odds(1), LOST);
        due.is("names no fault", x.fault(), 0);
    }
}
