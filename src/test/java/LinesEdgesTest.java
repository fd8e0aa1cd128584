import java.util.Random;

/** The edges of part 1 of the document: LINES by a TEXT, and promises 1 to 5. */
public final class LinesEdgesTest {
    private static final int UNKNOWN = ValuePlaces.UNKNOWN, OUTSIDE = ValuePlaces.OUTSIDE;
    private static final int STATE = ValuePlaces.STATE, NONE = ValuePlaces.NONE;
    private static final int LEAST = Due.LEAST, GREATEST = Due.GREATEST;
    private static final int NULL = 1, CAST = 2, INDEX = 3, SIZE = 4;

    /** A chain of eight, in which nothing is USED. */
    private static final String CHAIN = "r;p-;p0;p1;p2;p3;p4;p5;p6";
    /** As many codes as a TEXT can have. */
    private static final String LONGEST = "r;p-;p00;p101;p201;p301;p401;p501;p601";
    /** 1 and 2 stand right below 0, 3 right below 1, 4 right below 2. */
    private static final String FORK = "r;p-;p0;p0;p1;p2";

    private static final Due due = new Due("LinesEdgesTest");

    public static void main(String[] args) {
        newObject();
        oneToEightLines();
        letters();
        aboveOfLineZero();
        aboveOfOthers();
        howManyUsed();
        usedTwice();
        usedAbove();
        below();
        firstFault();
        endsTooSoon();
        codes();
        kinds();
        makesAllAnew();
        cost();
        live();
        cross();
        colours();
        textOfCells();
        linesRefused();
        linesFaults();
        ofLine();
        used();
        reuse();
        reuseRefused();
        due.end();
    }

    private static void text(String text, int want) {
        due.is("lines of " + text, Due.read(new ValuePlaces(), text), want);
    }

    // ---- Promise 1

    private static void newObject() {
        due.says(1, "No LINES");
        ValuePlaces x = new ValuePlaces();
        due.all("many", x::many, 0, 0, 1, 2, 3, 4);
        for (int n : new int[] {LEAST, NONE, -1, 0, 1, 7, 8, GREATEST}) {
            due.is("ofLine", x.ofLine(n, 0), UNKNOWN);
            due.is("used", x.used(n, 0), UNKNOWN);
            due.is("reuse", x.reuse(n, 0, 0), UNKNOWN);
            due.is("grow", x.grow(0, n, NONE, NONE), UNKNOWN);
            due.is("cross", x.cross(n, 1), UNKNOWN);
            due.is("next", x.next(0, n), UNKNOWN);
            due.is("reading", x.reading(n, 0), UNKNOWN);
            due.is("kinds", x.kinds(n), UNKNOWN);
            due.is("firsts", x.firsts(n), UNKNOWN);
            due.is("tell", x.tell(n), UNKNOWN);
            due.is("label", x.label(n), UNKNOWN);
            due.is("as", x.as(n, 0), UNKNOWN);
        }
        due.is("cut", x.cut(), STATE);
        due.all("most", x::most, STATE, 0, 1, 2);
        due.all("hold", k -> x.hold(k, 0), STATE, 3, 8);
        due.is("back", x.back(0), 0);
        due.is("odds", x.odds(0), ValuePlaces.LOST);
        due.is("trace", x.trace(), 0);
        due.is("fault", new ValuePlaces().fault(), 0);
        due.says(1, "SHEETS have nothing.");
        ValuePlaces y = new ValuePlaces();
        for (int k = 0; k < 4; k++) {
            due.is("lose", y.lose(k), 0);
            due.is("put", y.put(k, 0, 0), -11);
            due.is("lines", y.lines(k, 0, 0, 0), -11);
            due.is("day", y.day(k, 0, 0, 0, 0), -11);
            due.is("copies", y.copies(k, 0, 0, 0, 0), -11);
            due.is("copy", y.copy(k, 0, k, 0, 0), -11);
            due.is("cell", y.cell(k, 0, 0), ValuePlaces.LOST);
            due.is("fault", y.fault(), NULL);
        }
    }

    // ---- LINES by a TEXT

    private static void oneToEightLines() {
        due.says(0, "LINES by a TEXT: r, then 1 to 8 LINES, numbered from 0 on, each: ;");
        text("r", -101);
        for (int n = 1; n <= 8; n++) {
            ValuePlaces x = new ValuePlaces();
            due.is(n + " lines", Due.read(x, CHAIN.substring(0, 1 + 3 * n)), n);
            due.is("how many", x.many(0), n);
            due.is("the first", x.ofLine(0, 1), 8);
            due.is("the last", x.ofLine(n - 1, 2), 0);
            due.is("one more", x.ofLine(n, 2), UNKNOWN);
            due.is("one less", x.ofLine(-1, 2), UNKNOWN);
        }
        text(CHAIN + ";p7", -125);
        text(";p-", -100);
        text("rp-", -101);
        text("r;p-p0", -104);
    }

    private static void letters() {
        due.says(0, "and a letter (its kind)");
        for (int l = 0; l < 8; l++) {
            String ahead = CHAIN.substring(0, 2 + 3 * l);
            String behind = CHAIN.substring(3 + 3 * l);
            for (int kind = 0; kind < 3; kind++) {
                ValuePlaces x = new ValuePlaces();
                due.is("taken", Due.read(x, ahead + "pbd".charAt(kind) + behind), 8);
                due.is("kind of " + l, x.ofLine(l, 0), kind);
            }
            text(ahead + "x" + behind, -102 - 3 * l);
            text(ahead + behind, -102 - 3 * l);
        }
    }

    private static void aboveOfLineZero() {
        due.says(0, "then ABOVE: a dash (of LINE 0)");
        ValuePlaces x = new ValuePlaces();
        due.is("dash", Due.read(x, "r;p-"), 1);
        due.is("above", x.ofLine(0, 1), 8);
        text("r;p0", -103);
        text("r;p7", -103);
        text("r;p;", -103);
        text("r;p--", -104);
        // No other LINE has one.
        text("r;p-;p-", -106);
        text("r;p-;p0;p-", -109);
    }

    private static void aboveOfOthers() {
        due.says(0, "the digit of a LINE told ahead (of each other one)");
        for (int l = 1; l < 8; l++) {
            String ahead = CHAIN.substring(0, 3 + 3 * l);
            for (int above = 0; above < 10; above++) {
                ValuePlaces x = new ValuePlaces();
                boolean told = above < l;
                due.is(ahead + above, Due.read(x, ahead + above), told ? l + 1 : -103 - 3 * l);
                due.is("above " + l, x.ofLine(l, 1), told ? above : UNKNOWN);
            }
        }
    }

    private static void howManyUsed() {
        due.says(0, "then 0 to 2 digits: LINES that it USES");
        String[] uses = {"", "1", "10"};
        for (int n = 0; n <= 2; n++) {
            ValuePlaces x = new ValuePlaces();
            due.is("uses " + uses[n], Due.read(x, "r;p-;p0;p1;p2" + uses[n]), 4);
            due.is("how many", x.ofLine(3, 2), n);
            due.is("place 0", x.used(3, 0), n > 0 ? 1 : UNKNOWN);
            due.is("place 1", x.used(3, 1), n > 1 ? 0 : UNKNOWN);
        }
        text("r;p-;p0;p1;p2102", -115);
        // LINE 0 has nobody to USE.
        text("r;p-0", -104);
    }

    private static void usedTwice() {
        due.says(0, "unlike ones");
        text("r;p-;p0;p101", 3);
        text("r;p-;p0;p100", -111);
        text("r;p-;p0;p111", -111);
        text("r;p-;p000", -108);
        // Two LINES may USE the same one.
        text("r;p-;p00;p10", 3);
    }

    private static void usedAbove() {
        due.says(0, "such that it is BELOW each");
        text(FORK + ";p30", 6);
        text(FORK + ";p31", 6);
        text(FORK + ";p33", 6);
        text(FORK + ";p32", -119);
        text(FORK + ";p34", -119);
        text(FORK + ";p35", -119);
        text(FORK + ";p36", -119);
        text(FORK + ";p312", -120);
        text(FORK + ";p42", 6);
        text(FORK + ";p41", -119);
        text(FORK + ";p43", -119);
    }

    private static void below() {
        due.says(0, "A LINE is BELOW another one, if that is ABOVE it, or ABOVE one that it is BELOW.");
        for (int v = 0; v < 9; v++) {
            text(CHAIN + v, v < 7 ? 8 : -125);
        }
        ValuePlaces x = Due.of(CHAIN + "0");
        for (int l = 0; l < 8; l++) {
            for (int v = 0; v < 8; v++) {
                due.is("next(" + v + ", " + l + ")", x.next(v, l), v >= l ? STATE : v == 0 ? 7 - l : NONE);
            }
        }
        due.says(0, "Its VALUE has its number.");
        for (int v = 0; v < 7; v++) {
            ValuePlaces y = Due.of(CHAIN + v);
            due.is("used", y.used(7, 0), v);
            due.is("live behind 6", y.ofLine(6, 3), 1 << 6 | 1 << v);
            due.is("label", y.label(v), v);
        }
    }

    private static void firstFault() {
        due.says(0, "FIRST FAULT: the place (from 0 on) of the first code with which no TEXT goes on");
        text("x", -100);
        text("x;y-;p9", -100);
        text("rx;y-", -101);
        text("r;p-;q-;x", -105);
        text("r;p-;p00;p01;p000", -111);
        // A wrong code comes ahead of the end.
        text("r;p-;p0;x", -108);
        due.says(0, "(a third USED one, one USED twice, the ; of a ninth LINE)");
        text("r;p-;p0;p1;p2012", -115);
        text("r;p-;p0;p1;p211;", -114);
        text(LONGEST, 8);
        text(LONGEST + ";", -138);
        text(LONGEST + "2", -138);
        text(CHAIN + ";", -125);
    }

    private static void endsTooSoon() {
        due.says(0, "how many codes there are, if it just ends too soon");
        String[] texts = {CHAIN, LONGEST, "r;b-;d0;b00;d10"};
        for (String text : texts) {
            for (int n = 0; n <= text.length(); n++) {
                String begun = text.substring(0, n);
                int lines = begun.length() - begun.replace(";", "").length();
                boolean whole = n >= 4 && begun.lastIndexOf(';') < n - 2;
                text(begun, whole ? lines : -100 - n);
            }
        }
    }

    /** With which codes a TEXT goes on behind these, of all that a byte can be and of some ints. */
    private static void goesOn(String behind, String with) {
        int[] far = {LEAST, GREATEST, 114 + 256, 59 + 65536, 48 - 256, 45 + (1 << 31), 256, -129};
        ValuePlaces x = null;
        for (int c = 0; c < 256 + far.length; c++) {
            if (c % 128 == 0) {
                x = new ValuePlaces();
                Due.row(x, 0, 2, Due.codes(behind + "?"));
            }
            int code = c < 256 ? c - 128 : far[c - 256];
            x.put(0, behind.length(), code);
            boolean fits = code >= 0 && code < 128 && with.indexOf(code) >= 0;
            boolean stops = x.lines(0, 2, 0, behind.length() + 1) == -100 - behind.length();
            due.is(behind + " and code " + code, stops ? 0 : 1, fits ? 1 : 0);
        }
    }

    private static void codes() {
        due.says(0, "(Codes: r 114, p 112, b 98, d 100, ; 59, the dash 45, digits 48 .. 55.)");
        goesOn("", "r");
        goesOn("r", ";");
        goesOn("r;", "pbd");
        goesOn("r;p", "-");
        goesOn("r;b-", ";");
        goesOn("r;d-;", "pbd");
        goesOn("r;p-;d", "0");
        goesOn("r;p-;b0", "0;");
        goesOn("r;p-;p00", ";");
        goesOn("r;p-;p0;p", "01");
        goesOn("r;p-;p0;p0", "0;");
        goesOn("r;p-;p0;p1", "01;");
        goesOn("r;p-;p0;p10", "1;");
        goesOn("r;p-;p0;p11", "0;");
        goesOn("r;p-;p0;p110", ";");
        goesOn(CHAIN.substring(0, 24), "0123456");
        goesOn(CHAIN, "0123456");
        goesOn(CHAIN + "3", "012456");
        goesOn(CHAIN + "36", "");
        int[] codes = {114, 59, 112, 45, 59, 98, 48, 59, 100, 49, 48};
        ValuePlaces x = new ValuePlaces();
        Due.row(x, 0, 0, codes);
        due.is("by their numbers", x.lines(0, 0, 0, 11), 3);
        for (int l = 0; l < 3; l++) {
            due.is("kind", x.ofLine(l, 0), l);
        }
        due.is("above", x.ofLine(2, 1), 1);
        due.is("used", x.used(2, 0), 0);
    }

    private static void kinds() {
        due.says(0, "Kinds: 0 PLAIN (p); 1 BULKY (b), a PLAIN one; 2 DOUBLE (d), a BULKY one.");
        ValuePlaces x = Due.of("r;p-;b0;d1");
        for (int v = 0; v < 3; v++) {
            due.is("kind", x.ofLine(v, 0), v);
            for (int kind = 0; kind < 3; kind++) {
                due.is("as(" + v + ", " + kind + ")", x.as(v, kind), kind <= v ? 1 : -12);
            }
        }
    }

    private static void makesAllAnew() {
        due.says(0, "A TEXT that is taken makes all anew: no READINGS.");
        ValuePlaces x = Due.of("r;d-;d00;d10;d201");
        for (int r = 0; r < 8; r++) {
            x.reading(r % 4, 20);
        }
        due.is("one that is not taken", Due.read(x, "r;p-;"), -105);
        due.is("READINGS", x.many(4), 8);
        due.is("LINES", x.many(0), 4);
        due.is("kind", x.ofLine(0, 0), 2);
        due.is("one that is taken", Due.read(x, "r;p-;p0"), 2);
        due.is("READINGS", x.many(4), 0);
        due.is("LINES", x.many(0), 2);
        due.is("USED ones", x.many(1), 0);
        due.is("kind", x.ofLine(0, 0), 0);
        due.is("users", x.ofLine(0, 7), 0);
        due.is("used", x.used(1, 0), UNKNOWN);
        due.is("line 2", x.ofLine(2, 0), UNKNOWN);
        due.is("kinds", x.kinds(0), 7);
        due.is("the first READING", x.reading(0, 0), 0);
        due.is("the same TEXT again", x.lines(3, 0, 0, 7), 2);
        due.is("READINGS", x.many(4), 0);
    }

    private static void cost() {
        due.says(0, "COST of a VALUE: of a PLAIN one how many LINES USE it; of a BULKY one 1 more; "
            + "of a DOUBLE one twice what a PLAIN one's is.");
        for (int users = 0; users < 8; users++) {
            int[] costs = {users, users + 1, 2 * users};
            for (int kind = 0; kind < 3; kind++) {
                StringBuilder text = new StringBuilder("r;").append("pbd".charAt(kind)).append('-');
                for (int l = 0; l < users; l++) {
                    text.append(";p00");
                }
                due.is("cost of " + text, Due.of(text.toString()).ofLine(0, 8), costs[kind]);
            }
        }
    }

    private static void live() {
        due.says(0, "LIVE behind a LINE are its own VALUE, and each VALUE that it is BELOW and some LINE BELOW it USES.");
        ValuePlaces x = Due.of("r;p-;p0;p1;p2");
        for (int l = 0; l < 4; l++) {
            due.is("its own, that nobody USES", x.ofLine(l, 3), 1 << l);
        }
        x = Due.of("r;p-;p0;p1;p20");
        due.is("between", x.ofLine(1, 3), 3);
        due.is("right above the one that USES it", x.ofLine(2, 3), 5);
        due.is("behind the one that USES it", x.ofLine(3, 3), 8);
        due.is("its own LINE", x.ofLine(0, 3), 1);
        // 0 is USED below 1 alone; 3 stands below 2.
        x = Due.of("r;p-;p0;p0;p2;p10");
        due.is("in the branch where it is USED", x.ofLine(1, 3), 3);
        due.is("in the other branch", x.ofLine(2, 3), 4);
        due.is("in the other branch", x.ofLine(3, 3), 8);
        // 2 is USED below 0, too, but 1 is not below 2.
        x = Due.of("r;p-;p0;p0;p1;p22");
        due.is("one that it is not below", x.ofLine(1, 3), 2);
        // It is needed again further down.
        x = Due.of("r;p-;p00;p10;p20");
        due.is("USED here and further down", x.ofLine(1, 3), 3);
        due.is("USED here and further down", x.ofLine(2, 3), 5);
        due.is("USED here and no more", x.ofLine(3, 3), 8);
        due.says(0, "PRESSURE of a LINE: how many are.");
        x = Due.of("r;p-;p0;p1;p2;p3;p401;p523;p64");
        int[] pressures = {1, 2, 3, 4, 5, 4, 2, 1};
        for (int l = 0; l < 8; l++) {
            due.is("pressure of " + l, x.ofLine(l, 4), pressures[l]);
        }
    }

    private static void cross() {
        due.says(0, "Two VALUES CROSS, if both are LIVE behind some LINE.");
        ValuePlaces x = Due.of("r;p-;p00");
        due.is("0 is USED by 1 alone", x.cross(0, 1), 0);
        x = Due.of("r;p-;p0;p10");
        due.is("0 is USED behind 1", x.cross(0, 1), 1);
        due.is("and not behind 2", x.cross(0, 2), 0);
        // Both are LIVE, but never behind the same LINE.
        x = Due.of("r;p-;p0;p0;p11;p22");
        due.is("two branches", x.cross(1, 2), 0);
        // Behind 3 both are LIVE, behind either one's own LINE they are, too.
        x = Due.of("r;p-;p0;p1;p2;p301");
        due.is("both for long", x.cross(0, 1), 1);
        due.is("both for long", x.cross(1, 3), 1);
    }

    private static void colours() {
        due.says(0, "COLOURS are given LINE by LINE, in the order of numbers: a VALUE gets the least (0, 1, ..) "
            + "that none of the others that are LIVE behind its LINE has.");
        // Behind 4 five are LIVE, as many as can be; 5 gets the least of the two that are free, 7 that of none.
        ValuePlaces x = Due.of("r;p-;p0;p1;p2;p3;p401;p523;p64");
        int[] colours = {0, 1, 2, 3, 4, 0, 0, 0};
        for (int l = 0; l < 8; l++) {
            due.is("colour of " + l, x.ofLine(l, 5), colours[l]);
        }
        due.is("all", x.most(1), 5);
        // 0 stays, 1 is let go: 2 gets what 1 had, 3 the next one.
        x = Due.of("r;p-;p0;p11;p2;p302;p43");
        int[] again = {0, 1, 1, 2, 0, 0};
        for (int l = 0; l < 6; l++) {
            due.is("colour of " + l, x.ofLine(l, 5), again[l]);
        }
        Random random = new Random(6);
        for (int n = 0; n < 3000; n++) {
            x = grown(random);
            due.is("no more than are live anywhere", x.most(1), x.most(0));
        }
    }

    private static ValuePlaces grown(Random random) {
        ValuePlaces x = Due.of("r;p-");
        for (int tries = 0; tries < 60 && x.many(0) < 8; tries++) {
            int n = x.many(0);
            x.grow(0, random.nextInt(3) == 0 ? random.nextInt(n) : n - 1, random.nextInt(n), random.nextInt(n));
        }
        return x;
    }

    // ---- Promise 2

    private static void textOfCells() {
        due.says(2, "LINES by a TEXT of n cells of a SHEET from i on, taken as a row of a LANE: how many");
        int[] row = new int[60];
        System.arraycopy(Due.codes(LONGEST), 0, row, 22, 38);
        for (int k = 0; k < 4; k++) {
            for (int lane = 0; lane < 3; lane++) {
                ValuePlaces x = new ValuePlaces();
                Due.row(x, k, lane, row);
                due.is("the last 38 of 60", x.lines(k, lane, 22, 38), 8);
                due.is("fewer", x.lines(k, lane, 22, 4), 1);
                due.is("all 60", x.lines(k, lane, 0, 60), -100);
                due.is("none of them", x.lines(k, lane, 60, 0), -100);
            }
        }
        due.says(2, "-100 less the FIRST FAULT.");
        ValuePlaces x = new ValuePlaces();
        System.arraycopy(Due.codes(LONGEST), 0, row, 0, 38);
        Due.row(x, 0, 0, row);
        due.is("a long one that goes on", x.lines(0, 0, 0, 60), -138);
        due.is("one code more", x.lines(0, 0, 0, 39), -138);
        due.is("from 1 on", x.lines(0, 0, 1, 59), -100);
        due.is("nothing has been taken", x.many(0), 0);
        due.is("no fault", x.fault(), 0);
    }

    private static void linesRefused() {
        ValuePlaces x = new ValuePlaces();
        for (int k = 0; k < 4; k++) {
            Due.row(x, k, 0, Due.codes("r;p-"));
        }
        due.says(2, "UNKNOWN;");
        due.all("sheet", k -> x.lines(k, 0, 0, 4), 1, 0, 3);
        due.all("sheet", k -> x.lines(k, 0, 0, 4), UNKNOWN, LEAST, -1, 4, GREATEST);
        due.says(2, "OUTSIDE: lane");
        due.all("lane", lane -> x.lines(0, lane, 0, 4), OUTSIDE, LEAST, -1, 3, GREATEST);
        for (int lane = 0; lane < 3; lane++) {
            Due.row(x, lane, lane, Due.codes("r;p-"));
            due.is("lane " + lane, x.lines(lane, lane, 0, 4), 1);
        }
    }

    private static void linesFaults() {
        due.says(2, "FAULTS CAST (nothing is no CAST), NULL");
        ValuePlaces x = new ValuePlaces();
        for (int had = 0; had < 3; had++) {
            Due.row(x, 0, had, Due.codes("r;p-"));
            for (int lane = 0; lane < 3; lane++) {
                int fault = lane == had ? 0 : CAST;
                due.is("lane " + lane + " of " + had, x.lines(0, lane, 0, 4), fault == 0 ? 1 : -12);
                due.is("fault", x.fault(), fault);
            }
            x.lose(0);
            due.fails(x, "nothing, lane", lane -> x.lines(0, lane, 0, 4), NULL, 0, 1, 2);
        }
        due.says(2, "SIZE: n is below 0");
        Due.row(x, 0, 0, Due.codes("r;p-"));
        due.fails(x, "n", n -> x.lines(0, 0, 0, n), SIZE, LEAST, -4, -1);
        due.is("n of 0", x.lines(0, 0, 0, 0), -100);
        due.is("fault", x.fault(), 0);
        due.says(2, "INDEX: not all cells are there; -100 less it.");
        due.fails(x, "n", n -> x.lines(0, 0, 0, n), INDEX, 5, 60, GREATEST);
        due.fails(x, "i, of 4", i -> x.lines(0, 0, i, 4), INDEX, LEAST, -1, 1, GREATEST);
        due.fails(x, "i, of 0", i -> x.lines(0, 0, i, 0), INDEX, LEAST, -1, 5, GREATEST);
        due.fails(x, "n, from 3 on", n -> x.lines(0, 0, 3, n), INDEX, 2, GREATEST);
        due.is("the last one", x.lines(0, 0, 3, 1), -100);
        due.is("none behind it", x.lines(0, 0, 4, 0), -100);
        due.is("all", x.lines(0, 0, 0, 4), 1);
        x.sheet(0, 0, 0);
        due.is("none of none", x.lines(0, 0, 0, 0), -100);
        due.is("fault", x.fault(), 0);
        due.fails(x, "n of a row of none", n -> x.lines(0, 0, 0, n), INDEX, 1, GREATEST);
        due.fails(x, "i of a row of none", i -> x.lines(0, 0, i, 0), INDEX, -1, 1);
    }

    // ---- Promises 3 to 5

    private static void ofLine() {
        due.says(3, "Of a LINE, its VALUE: 0 kind, 1 ABOVE (8: none), 2 how many it USES, 3 LIVE behind it, as a set, "
            + "4 PRESSURE, 5 COLOUR, 6 VALUES that CROSS its own, as a set, 7 LINES that USE it, as a set, 8 COST.");
        ValuePlaces x = Due.of("r;d-;b0;p1;p2;p3;p401;p523;d640");
        int[][] all = {
            {2, 8, 0, 1, 1, 0, 126, 160, 4},
            {1, 0, 0, 3, 2, 1, 29, 32, 2},
            {0, 1, 0, 7, 3, 2, 59, 64, 1},
            {0, 2, 0, 15, 4, 3, 55, 64, 1},
            {0, 3, 0, 31, 5, 4, 111, 128, 1},
            {0, 4, 2, 61, 5, 1, 29, 0, 0},
            {0, 5, 2, 81, 3, 1, 17, 0, 0},
            {2, 6, 2, 128, 1, 0, 0, 0, 0}};
        for (int l = 0; l < 8; l++) {
            for (int what = 0; what < 9; what++) {
                due.is("ofLine(" + l + ", " + what + ")", x.ofLine(l, what), all[l][what]);
            }
        }
        due.says(3, "UNKNOWN;");
        due.all("line", l -> x.ofLine(l, 0), UNKNOWN, LEAST, -1, 8, GREATEST);
        ValuePlaces one = Due.of("r;b-");
        due.is("the one", one.ofLine(0, 0), 1);
        due.all("line", l -> one.ofLine(l, 0), UNKNOWN, -1, 1);
        due.says(3, "OUTSIDE.");
        due.all("what", what -> x.ofLine(7, what), OUTSIDE, LEAST, -1, 9, GREATEST);
        due.is("what 0", x.ofLine(7, 0), 2);
        due.is("what 8", x.ofLine(0, 8), 4);
    }

    private static void used() {
        due.says(4, "The VALUE that a LINE USES in place i (0, 1).");
        ValuePlaces x = Due.of("r;p-;p00;p110;p2;p3;p4;p5;p660");
        due.is("place 0 of the last", x.used(7, 0), 6);
        due.is("place 1 of the last", x.used(7, 1), 0);
        due.is("the only one", x.used(1, 0), 0);
        due.says(4, "UNKNOWN: LINE, place.");
        due.all("line", l -> x.used(l, 0), UNKNOWN, LEAST, -1, 8, GREATEST);
        due.all("place, of two", i -> x.used(7, i), UNKNOWN, LEAST, -1, 2, GREATEST);
        due.all("place, of one", i -> x.used(1, i), UNKNOWN, LEAST, -1, 1, 2, GREATEST);
        due.all("place, of none", i -> x.used(3, i), UNKNOWN, LEAST, -1, 0, 1, GREATEST);
        due.all("place, of LINE 0", i -> x.used(0, i), UNKNOWN, -1, 0, 1);
    }

    private static void reuse() {
        due.says(5, "USED one in place i of a LINE becomes v: what it was.");
        ValuePlaces x = Due.of("r;p-;p0;p1;p2;p3;p4;p5;p665");
        due.is("the least", x.reuse(7, 0, 0), 6);
        due.is("now", x.used(7, 0), 0);
        due.is("its other one stays", x.used(7, 1), 5);
        due.is("the greatest", x.reuse(7, 1, 6), 5);
        due.is("now", x.used(7, 1), 6);
        due.is("the other place stays", x.used(7, 0), 0);
        due.is("what it is", x.reuse(7, 1, 6), 6);
        due.is("live behind 6", x.ofLine(6, 3), 65);
        due.is("users of 5", x.ofLine(5, 7), 0);
        due.is("users of 0", x.ofLine(0, 7), 128);
        due.is("how many", x.ofLine(7, 2), 2);
        x.reading(0, 1);
        due.is("READINGS stay", x.reuse(7, 0, 1), 0);
        due.is("READINGS stay", x.many(4), 1);
    }

    private static void reuseRefused() {
        ValuePlaces x = Due.of("r;p-;p00;p110;p0;p2;p42");
        due.says(5, "UNKNOWN: LINE, place, VALUE");
        due.all("line", l -> x.reuse(l, 0, 0), UNKNOWN, LEAST, -1, 6, 8, GREATEST);
        due.all("place, of two", i -> x.reuse(2, i, 0), UNKNOWN, LEAST, -1, 2, GREATEST);
        due.all("place, of one", i -> x.reuse(1, i, 0), UNKNOWN, -1, 1, 2);
        due.all("place, of none", i -> x.reuse(4, i, 0), UNKNOWN, -1, 0, 1);
        due.all("value", v -> x.reuse(5, 0, v), UNKNOWN, LEAST, NONE, -1, 6, 8, GREATEST);
        due.says(5, "STATE: the LINE is not BELOW it");
        due.all("itself, another branch", v -> x.reuse(5, 0, v), STATE, 5, 3);
        due.all("itself, those below", v -> x.reuse(2, 0, v), STATE, 2, 3, 4, 5);
        due.is("itself", x.reuse(1, 0, 1), STATE);
        due.says(5, "its other USED one is that.");
        due.is("place 0", x.reuse(2, 0, 0), STATE);
        due.is("place 1", x.reuse(2, 1, 1), STATE);
        due.is("what it is, place 0", x.reuse(2, 0, 1), 1);
        due.is("what it is, place 1", x.reuse(2, 1, 0), 0);
        due.is("one that USES no other", x.reuse(5, 0, 4), 2);
    }
}
