/** The edges of part 4 of the document: READINGS, KINDS, FIRSTS, ODDS, and promises 14 to 18. */
public final class CostsEdgesTest {
    private static final int UNKNOWN = ValuePlaces.UNKNOWN, OUTSIDE = ValuePlaces.OUTSIDE;
    private static final int STATE = ValuePlaces.STATE, FULL = ValuePlaces.FULL, NONE = ValuePlaces.NONE;
    private static final int LEAST = Due.LEAST, GREATEST = Due.GREATEST;
    private static final long LOST = ValuePlaces.LOST;

    private static final Due due = new Due("CostsEdgesTest");

    public static void main(String[] args) {
        numbers();
        readingIsOfACost();
        inPlaceOfWhatItIsAlone();
        kindsThatAre();
        firstsThatAre();
        byHowAllIsNow();
        share();
        leastTerms();
        reading();
        readingRefused();
        back();
        kinds();
        firsts();
        odds();
        due.end();
    }

    // ---- READINGS

    private static void numbers() {
        due.says(0, "READINGS, 8 at most, numbered by how many there are");
        ValuePlaces x = Due.of("r;p-;p0");
        for (int n = 0; n < 8; n++) {
            due.is("how many", x.many(4), n);
            due.is("number", x.reading(n % 2, n), n);
        }
        due.is("a ninth", x.reading(0, 0), FULL);
        due.is("how many", x.many(4), 8);
        x.back(3);
        due.is("number, behind back", x.reading(0, 0), 5);
        x.cut();
        // They were of 0, 1, 0, 1, 0 and 0: those of 1 are gone.
        due.is("how many", x.many(4), 4);
        due.is("number, behind cut", x.reading(0, 0), 4);
        // The same may be told twice.
        due.is("number, told again", x.reading(0, 0), 5);
    }

    private static void readingIsOfACost() {
        due.says(0, "COST of a VALUE is c.");
        // All costs that there can be: of 0 to 7 LINES that USE it.
        for (int users = 0; users < 8; users++) {
            StringBuilder text = new StringBuilder("r;p-");
            for (int l = 0; l < users; l++) {
                text.append(";p00");
            }
            int[] costs = {users, users + 1, 2 * users};
            for (int c = 0; c <= 20; c++) {
                ValuePlaces x = Due.of(text.toString());
                x.reading(0, c);
                int set = (costs[0] == c ? 1 : 0) | (costs[1] == c ? 2 : 0) | (costs[2] == c ? 4 : 0);
                due.is("kinds of one that " + users + " USE, by " + c, x.kinds(0), set);
            }
        }
    }

    private static void inPlaceOfWhatItIsAlone() {
        due.says(0, "All that follows: in place of what it is alone, by which all READINGS are so");
        // 0 is USED once, 1 twice, 2 never; as they are they cost 2, 3, 0.
        ValuePlaces x = Due.of("r;d-;b00;p11;p21");
        due.is("no READINGS", x.kinds(0), 7);
        x.reading(0, 2);
        x.reading(1, 3);
        x.reading(2, 0);
        due.is("all are so now, kinds of 0", x.kinds(0), 6);
        due.is("all are so now, kinds of 1", x.kinds(1), 2);
        due.is("all are so now, kinds of 2", x.kinds(2), 5);
        due.is("of one without READINGS", x.kinds(3), 7);
        due.is("firsts of 1", x.firsts(1), 1);
        due.is("firsts of 3", x.firsts(3), 2);
        x.reading(2, 1);
        due.is("two that can't both be", x.kinds(2), 0);
        due.is("nor by another VALUE", x.kinds(0), 0);
        due.is("nor by a LINE", x.firsts(3), 0);
        x.back(1);
        x.reading(1, 2);
        due.is("two that can't both be", x.kinds(1), 0);
        x.back(1);
        // 0 is not so as it is: by another kind it is, and no kind of another one helps.
        x.back(3);
        x.reading(0, 1);
        due.is("its own kind", x.kinds(0), 1);
        due.is("another one's kind", x.kinds(1), 0);
        due.is("it stays what it is", x.ofLine(0, 0), 2);
        due.is("and costs what it does", x.ofLine(0, 8), 2);
    }

    private static void kindsThatAre() {
        due.says(0, "KINDS of a VALUE: 0 .. 2");
        for (int kind = 0; kind < 3; kind++) {
            ValuePlaces x = Due.of("r;p-;" + "pbd".charAt(kind) + "0;p11;p21");
            due.is("all", x.kinds(1), 7);
            int[] sets = {0, 0, 1, 2, 4, 0};
            for (int c = 0; c < sets.length; c++) {
                x.reading(1, c);
                due.is("by " + c, x.kinds(1), sets[c]);
                x.back(1);
            }
        }
    }

    private static void firstsThatAre() {
        due.says(0, "FIRSTS of a LINE that USES any: the VALUE in place 0 (that it is BELOW, unlike its other one); as sets.");
        ValuePlaces x = Due.of("r;p-;p00;p110;p0;p220");
        due.is("of one above", x.firsts(1), 1);
        due.is("of two, its other one is 0", x.firsts(2), 2);
        due.is("not of the other branch", x.firsts(4), 6);
        ValuePlaces y = Due.of("r;p-;p0;p1;p2;p3;p4;p5;p66");
        due.is("of seven above", y.firsts(7), 127);
        x.reading(0, 3);
        due.is("as it is", x.firsts(4), 6);
        due.is("of 1, which USES 0", x.firsts(1), 1);
        x.reading(2, 0);
        due.is("2 is not USED", x.firsts(4), 2);
        x.reading(1, 2);
        due.is("1 is", x.firsts(4), 2);
        due.is("it stays what it is", x.used(4, 0), 2);
        x.reading(1, 1);
        due.is("1 is not", x.firsts(4), 0);
        // It changes place 0 alone: 0, its other one, is USED all the same.
        ValuePlaces z = Due.of("r;p-;p0;p110");
        z.reading(0, 1);
        due.is("its other one is told", z.firsts(2), 2);
        z.reading(0, 0);
        due.is("its other one can't go", z.firsts(2), 0);
    }

    private static void byHowAllIsNow() {
        due.says(0, "in place of what it is alone");
        // Each change is asked about at once, with nothing in between.
        ValuePlaces x = Due.of("r;p-;p0;p110");
        x.reading(0, 1);
        due.is("firsts of a TEXT", x.firsts(2), 2);
        x.grow(0, 2, 2, NONE);
        due.is("firsts, behind grow", x.firsts(3), 6);
        x.grow(0, 3, 0, NONE);
        due.is("kinds, behind grow", x.kinds(0), 0);
        x.cut();
        due.is("firsts, behind cut", x.firsts(3), 6);
        x.reuse(3, 0, 1);
        x.reading(1, 2);
        due.is("firsts, behind reuse", x.firsts(3), 2);
        x.reuse(3, 0, 2);
        due.is("kinds, behind reuse", x.kinds(1), 6);
        Due.row(x, 0, 0, 3, 0, 0);
        due.is("a DAY", x.day(0, 0, 0, 1, 1), NONE);
        due.is("firsts, behind a DAY", x.firsts(3), 2);
        due.is("a DAY", x.day(0, 0, 0, 1, 1), NONE);
        due.is("kinds, behind a DAY", x.kinds(1), 6);
        due.is("no TEXT", Due.read(x, "r;p-;p0;p10;p20;"), -116);
        due.is("firsts, behind no TEXT", x.firsts(3), 2);
        due.is("no TEXT", Due.read(x, "r;p-;p0;p10;p20;"), -116);
        due.is("kinds, behind no TEXT", x.kinds(1), 6);
        due.is("firsts, behind kinds", x.firsts(3), 2);
        due.is("kinds, behind firsts", x.kinds(1), 6);
    }

    // ---- ODDS

    private static void share() {
        due.says(0, "ODDS: of all twos of unlike VALUES, all alike, the share of those that CROSS.");
        shareOf("r;p-;p0", 0, 1);
        shareOf("r;p-;p0;p10", 1, 3);
        shareOf("r;p-;p0;p10;p20", 1, 3);
        shareOf("r;p-;p0;p1;p201", 1, 2);
        shareOf("r;p-;p0;p1;p2;p301;p42", 7, 15);
        shareOf("r;p-;p0;p1;p2;p3;p401;p523;p64", 1, 2);
    }

    private static void leastTerms() {
        due.says(0, "Shares are told as upper and lower number (above 0) in least terms.");
        // 0 of 28, 7 of 21, 3 of 10, 1 of 28.
        shareOf("r;p-;p0;p1;p2;p3;p4;p5;p6", 0, 1);
        shareOf("r;p-;p0;p1;p2;p312;p40;p5", 1, 3);
        shareOf("r;p-;p0;p1;p201;p3", 3, 10);
        shareOf("r;p-;p0;p10;p0;p0;p0;p0;p0", 1, 28);
    }

    private static void shareOf(String text, long upper, long lower) {
        ValuePlaces x = Due.of(text);
        int n = x.many(0);
        due.is("upper of " + text, x.odds(0), upper);
        due.is("lower of " + text, x.odds(1), lower);
        due.is("twos of " + text, 2L * x.most(2) * lower, (long) n * (n - 1) * upper);
    }

    // ---- Promises 14, 15

    private static void reading() {
        due.says(14, "A READING: its number.");
        ValuePlaces x = Due.of("r;p-;p0;p1;p2;p3;p4;p5;p6");
        for (int v = 0; v < 8; v++) {
            due.is("number", x.reading(v, 0), v);
        }
        due.is("how many", x.many(4), 8);
        due.is("all are so", x.kinds(7), 5);
    }

    private static void readingRefused() {
        due.says(14, "UNKNOWN;");
        ValuePlaces x = Due.of("r;p-;p0");
        due.all("value", v -> x.reading(v, 0), UNKNOWN, LEAST, NONE, -1, 2, 8, GREATEST);
        due.is("how many", x.many(4), 0);
        due.is("the last VALUE", x.reading(1, 0), 0);
        due.says(14, "OUTSIDE: c (0 .. 20)");
        due.all("c", c -> x.reading(0, c), OUTSIDE, LEAST, -1, 21, GREATEST);
        due.is("how many", x.many(4), 1);
        due.is("c of 0", x.reading(0, 0), 1);
        due.is("c of 20", x.reading(0, 20), 2);
        due.says(14, "FULL.");
        for (int n = 3; n < 8; n++) {
            due.is("number", x.reading(1, 1), n);
        }
        due.is("a ninth", x.reading(1, 1), FULL);
        due.is("a ninth", x.reading(0, 20), FULL);
        due.is("how many", x.many(4), 8);
        due.is("one back", x.back(1), 7);
        due.is("one more", x.reading(1, 1), 7);
    }

    private static void back() {
        due.says(15, "The last n READINGS (0 .. as many as there are) are taken back: how many are left.");
        for (int n = 0; n <= 8; n++) {
            ValuePlaces x = Due.of("r;p-;p0");
            // The first one alone can be so.
            x.reading(0, 1);
            for (int r = 1; r < 8; r++) {
                x.reading(0, 5);
            }
            due.is("back " + n, x.back(n), 8 - n);
            due.is("how many", x.many(4), 8 - n);
            due.is("kinds", x.kinds(0), n == 8 ? 7 : n == 7 ? 2 : 0);
        }
        due.is("none of none", Due.of("r;p-").back(0), 0);
        due.is("without LINES", new ValuePlaces().back(0), 0);
        due.says(15, "OUTSIDE.");
        ValuePlaces x = Due.of("r;p-;p0");
        due.all("of none", x::back, OUTSIDE, LEAST, -1, 1, GREATEST);
        x.reading(0, 0);
        x.reading(0, 0);
        due.all("of two", x::back, OUTSIDE, LEAST, -1, 3, 8, GREATEST);
        due.is("how many", x.many(4), 2);
        due.is("both", x.back(2), 0);
        due.all("of none", x::back, OUTSIDE, -1, 1);
    }

    // ---- Promises 16 to 18

    private static void kinds() {
        due.says(16, "KINDS, as a set.");
        ValuePlaces x = Due.of("r;p-;p0");
        due.all("all", x::kinds, 7, 0, 1);
        x.reading(1, 0);
        due.is("PLAIN and DOUBLE", x.kinds(1), 5);
        x.back(1);
        x.reading(1, 1);
        due.is("BULKY", x.kinds(1), 2);
        x.reading(1, 0);
        due.is("none", x.kinds(1), 0);
        due.says(16, "UNKNOWN.");
        due.all("value", x::kinds, UNKNOWN, LEAST, NONE, -1, 2, 8, GREATEST);
    }

    private static void firsts() {
        due.says(17, "FIRSTS, as a set.");
        ValuePlaces x = Due.of("r;p-;p0;p10;p221");
        due.is("of one", x.firsts(2), 3);
        due.is("of two", x.firsts(3), 5);
        due.says(17, "UNKNOWN;");
        due.all("line", x::firsts, UNKNOWN, LEAST, NONE, -1, 4, 8, GREATEST);
        due.says(17, "STATE: the LINE USES none.");
        due.all("line", x::firsts, STATE, 0, 1);
        due.is("of one LINE", Due.of("r;p-").firsts(0), STATE);
        // READINGS that can't be do not come ahead of it.
        x.reading(0, 20);
        due.all("line", x::firsts, STATE, 0, 1);
        due.all("line", x::firsts, 0, 2, 3);
    }

    private static void odds() {
        due.says(18, "ODDS (which 0 the upper, 1 the lower number).");
        ValuePlaces x = Due.of("r;p-;p0;p10");
        due.is("upper", x.odds(0), 1);
        due.is("lower", x.odds(1), 3);
        due.says(18, "LOST: OUTSIDE;");
        due.all("which", x::odds, LOST, LEAST, -1, 2, GREATEST);
        due.says(18, "STATE: there are fewer than two VALUES.");
        x.cut();
        due.is("upper of two", x.odds(0), 0);
        due.is("lower of two", x.odds(1), 1);
        x.cut();
        due.all("of one", x::odds, LOST, LEAST, -1, 0, 1, 2, GREATEST);
        ValuePlaces none = new ValuePlaces();
        due.all("of none", none::odds, LOST, LEAST, -1, 0, 1, 2, GREATEST);
    }
}
