/** Promises 1 to 5: a new object, lines, ofLine, used, reuse. */
public final class LinesTest {
    private static final String TREE = "r;p-;b00;p110;d21;p20;p42;b110;p60";
    private static final Due due = new Due("LinesTest");

    public static void main(String[] args) {
        newObject();
        texts();
        firstFaults();
        refusedTexts();
        aTextMakesAllAnew();
        ofLine();
        liveAndColours();
        used();
        reuse();
        due.end();
    }

    private static void newObject() {
        ValuePlaces x = new ValuePlaces();
        for (int what = 0; what <= 4; what++) {
            due.is("many(" + what + ")", x.many(what), 0);
        }
        for (int k = 0; k < 4; k++) {
            due.is("lose", x.lose(k), 0);
            due.is("cell", x.cell(k, 0, 0), ValuePlaces.LOST);
            due.is("fault", x.fault(), 1);
        }
        due.is("trace", x.trace(), 0);
        due.is("fault of a new one", new ValuePlaces().fault(), 0);
    }

    private static void texts() {
        ValuePlaces x = new ValuePlaces();
        due.is("one", Due.read(x, "r;d-"), 1);
        due.is("kind", x.ofLine(0, 0), 2);
        due.is("eight", Due.read(x, TREE), 8);
        due.is("forks", Due.read(x, "r;p-;p0;p0;p0;p0;p0;p0;p0"), 8);
        due.is("the longest", Due.read(x, "r;p-;p00;p110;p210;p310;p410;p510;p610"), 8);
        // Cells ahead and behind do not count, and places are told from the first one taken.
        Due.row(x, 0, 2, Due.codes("xxr;p-;b00;xx"));
        due.is("from 2 on", x.lines(0, 2, 2, 8), 2);
        due.is("fewer", x.lines(0, 2, 2, 4), 1);
        due.is("one more", x.lines(0, 2, 2, 10), -109);
        due.is("still", x.many(0), 1);
        Due.row(x, 1, 1, Due.codes("r;b-"));
        due.is("shorts", x.lines(1, 1, 0, 4), 1);
        due.is("kind", x.ofLine(0, 0), 1);
        Due.row(x, 1, 2, 114 + 256, 59, 112, 45);
        due.is("an int is no byte", x.lines(1, 2, 0, 4), -100);
    }

    private static void firstFaults() {
        ValuePlaces x = new ValuePlaces();
        String[] texts = {"", "x", "r", "rr", "r;", "r;x", "r;p", "r;p0", "r;px", "r;p-0", "r;p--", "r;p-;", "r;p-;p",
            "r;p-;p-", "r;p-;p1", "r;p-;p00", "r;p-;p000", "r;p-;p001", "r;p-;p01", "r;p-;p0;p002",
            "r;p-;p0;p102", "r;p-;p0;p10", "r;p-;p0;p1011", "r;p-;p0;p1010", "r;p-;p0;p0001", "r;p-;p0;p01",
            "r;p-;p0;p0;p0;p0;p0;p0;p0;", "r;p-;p0;p0;p0;p0;p0;p0;p07", "r;p-;p0;p0;p0;p0;p0;p0;p8",
            "r;p-;p0;p0;p0;p0;p0;p0;p7", "r;p-r", "r;q-;", "r;p-/", "r;p-;p0:"};
        int[] answers = {-100, -100, -101, -101, -102, -102, -103, -103, -103, -104, -104, -105, -106,
            -106, -106, 2, -108, -108, -107, -111,
            -111, 3, -112, -112, -111, -110,
            -125, -125, -124,
            -124, -104, -102, -104, -107};
        for (int t = 0; t < texts.length; t++) {
            due.is("lines of " + texts[t], Due.read(x, texts[t]), answers[t]);
        }
    }

    private static void refusedTexts() {
        ValuePlaces x = Due.of("r;p-;p0");
        Due.row(x, 1, 1, Due.codes("r;p-"));
        due.is("no sheet", x.lines(4, 9, -1, -1), ValuePlaces.UNKNOWN);
        due.is("no sheet", x.lines(-1, 0, 0, 0), ValuePlaces.UNKNOWN);
        due.is("lane 3", x.lines(1, 3, -1, -1), ValuePlaces.OUTSIDE);
        due.is("lane -1", x.lines(0, -1, 0, 0), ValuePlaces.OUTSIDE);
        due.is("cast", x.lines(1, 0, -1, -1), -12);
        due.is("fault", x.fault(), 2);
        due.is("nothing is no cast", x.lines(0, 0, -1, -1), -11);
        due.is("fault", x.fault(), 1);
        due.is("size", x.lines(1, 1, -1, -1), -14);
        due.is("fault", x.fault(), 4);
        int[][] cells = {{-1, 0}, {5, 0}, {0, 5}, {4, 1}, {Integer.MAX_VALUE, 1}, {1, Integer.MAX_VALUE},
            {Integer.MIN_VALUE, 0}, {Integer.MAX_VALUE, Integer.MAX_VALUE}};
        for (int[] c : cells) {
            due.is("index " + c[0] + " " + c[1], x.lines(1, 1, c[0], c[1]), -13);
            due.is("fault", x.fault(), 3);
        }
        due.is("none of them at the end", x.lines(1, 1, 4, 0), -100);
        due.is("a first fault is no FAULT", x.fault(), 0);
        x.lines(1, 1, 9, 0);
        due.is("refused", x.lines(4, 0, 0, 0), -1);
        due.is("a refused one has none", x.fault(), 0);
        due.is("nothing was changed", x.many(0), 2);
    }

    private static void aTextMakesAllAnew() {
        ValuePlaces x = Due.of("r;b-;b0;b1");
        x.reading(0, 1);
        x.tell(0);
        int trace = x.trace();
        due.is("a faulty one", Due.read(x, "r;p-;"), -105);
        due.is("keeps READINGS", x.many(4), 1);
        due.is("a taken one", Due.read(x, "r;p-"), 1);
        due.is("has none", x.many(4), 0);
        due.is("trace goes on", x.trace(), trace);
        due.is("sheets stay", x.cell(3, 0, 0), 114);
    }

    private static void ofLine() {
        ValuePlaces x = Due.of(TREE);
        int[][] all = {
            {0, 8, 0, 1, 1, 0, 70, 214, 5},
            {1, 0, 1, 3, 2, 1, 5, 76, 4},
            {0, 1, 2, 7, 3, 2, 19, 32, 1},
            {2, 2, 1, 8, 1, 0, 0, 0, 0},
            {0, 2, 1, 20, 2, 0, 4, 0, 0},
            {0, 4, 1, 32, 1, 0, 0, 0, 0},
            {1, 1, 2, 65, 2, 1, 1, 0, 1},
            {0, 6, 1, 128, 1, 0, 0, 0, 0}};
        for (int l = 0; l < 8; l++) {
            for (int what = 0; what < 9; what++) {
                due.is("ofLine(" + l + ", " + what + ")", x.ofLine(l, what), all[l][what]);
            }
            due.is("what 9", x.ofLine(l, 9), ValuePlaces.OUTSIDE);
            due.is("what -1", x.ofLine(l, -1), ValuePlaces.OUTSIDE);
        }
        due.is("line 8", x.ofLine(8, 9), ValuePlaces.UNKNOWN);
        due.is("line -1", x.ofLine(-1, 0), ValuePlaces.UNKNOWN);
        // A DOUBLE one that two LINES USE costs four, a BULKY one three, a PLAIN one two.
        due.is("cost", Due.of("r;d-;p00;p10").ofLine(0, 8), 4);
        due.is("cost", Due.of("r;b-;p00;p10").ofLine(0, 8), 3);
        due.is("cost", Due.of("r;p-;p00;p10").ofLine(0, 8), 2);
        due.is("cost of none", Due.of("r;d-").ofLine(0, 8), 0);
        due.is("cost of none", Due.of("r;b-").ofLine(0, 8), 1);
    }

    private static void liveAndColours() {
        // 0 is USED in one branch alone: it is not LIVE in the other one.
        ValuePlaces x = Due.of("r;p-;p0;p0;p10;p2");
        due.is("live behind 1", x.ofLine(1, 3), 3);
        due.is("live behind 2", x.ofLine(2, 3), 4);
        due.is("live behind 3", x.ofLine(3, 3), 8);
        due.is("live behind 4", x.ofLine(4, 3), 16);
        due.is("colour of 1", x.ofLine(1, 5), 1);
        due.is("colour of 2", x.ofLine(2, 5), 0);
        // Its last use frees a colour: 2 takes that of 0, 3 the next free one.
        x = Due.of("r;p-;p0;p10;p21;p33;p42");
        due.is("colour of 0", x.ofLine(0, 5), 0);
        due.is("colour of 1", x.ofLine(1, 5), 1);
        due.is("colour of 2", x.ofLine(2, 5), 0);
        due.is("colour of 3", x.ofLine(3, 5), 1);
        due.is("colour of 4", x.ofLine(4, 5), 1);
        due.is("colour of 5", x.ofLine(5, 5), 0);
        // All of a chain are USED by its last LINES: they all cross.
        x = Due.of("r;p-;p0;p1;p2;p301;p423");
        due.is("live behind 3", x.ofLine(3, 3), 15);
        due.is("live behind 4", x.ofLine(4, 3), 28);
        due.is("crossing 3", x.ofLine(3, 6), 23);
        due.is("crossing 4", x.ofLine(4, 6), 12);
        due.is("colour of 3", x.ofLine(3, 5), 3);
        due.is("colour of 4", x.ofLine(4, 5), 0);
    }

    private static void used() {
        ValuePlaces x = Due.of(TREE);
        due.is("place 0 of 2", x.used(2, 0), 1);
        due.is("place 1 of 2", x.used(2, 1), 0);
        due.is("place 0 of 5", x.used(5, 0), 2);
        due.is("place 1 of 5", x.used(5, 1), ValuePlaces.UNKNOWN);
        due.is("place 0 of 0", x.used(0, 0), ValuePlaces.UNKNOWN);
        due.is("place 2 of 2", x.used(2, 2), ValuePlaces.UNKNOWN);
        due.is("place -1 of 2", x.used(2, -1), ValuePlaces.UNKNOWN);
        due.is("line 8", x.used(8, 0), ValuePlaces.UNKNOWN);
        due.is("line -1", x.used(-1, 0), ValuePlaces.UNKNOWN);
        // USED ones of an earlier TEXT do not come back.
        x = Due.of("r;p-;p00;p110");
        Due.read(x, "r;p-;p0");
        due.is("none", x.used(1, 0), ValuePlaces.UNKNOWN);
        x.grow(0, 1, ValuePlaces.NONE, ValuePlaces.NONE);
        due.is("none", x.used(2, 0), ValuePlaces.UNKNOWN);
        due.is("none", x.ofLine(0, 7), 0);
    }

    private static void reuse() {
        ValuePlaces x = Due.of(TREE);
        due.is("of 5", x.reuse(5, 0, 0), 2);
        due.is("now", x.used(5, 0), 0);
        due.is("live behind 4", x.ofLine(4, 3), 17);
        due.is("users of 2", x.ofLine(2, 7), 0);
        due.is("the same again", x.reuse(5, 0, 0), 0);
        due.is("right above", x.reuse(5, 0, 4), 0);
        due.is("itself", x.reuse(5, 0, 5), ValuePlaces.STATE);
        due.is("not below 3", x.reuse(5, 0, 3), ValuePlaces.STATE);
        due.is("one below it", x.reuse(4, 0, 5), ValuePlaces.STATE);
        due.is("its other one", x.reuse(2, 0, 0), ValuePlaces.STATE);
        due.is("its other one", x.reuse(2, 1, 1), ValuePlaces.STATE);
        due.is("its own in that place", x.reuse(2, 1, 0), 0);
        due.is("no line", x.reuse(8, 0, 0), ValuePlaces.UNKNOWN);
        due.is("no place", x.reuse(2, 2, 0), ValuePlaces.UNKNOWN);
        due.is("no place", x.reuse(0, 0, 0), ValuePlaces.UNKNOWN);
        due.is("no place", x.reuse(2, -1, 0), ValuePlaces.UNKNOWN);
        due.is("no value", x.reuse(2, 0, 8), ValuePlaces.UNKNOWN);
        due.is("no value", x.reuse(2, 0, -9), ValuePlaces.UNKNOWN);
        due.is("still", x.used(2, 0), 1);
        due.is("still", x.used(2, 1), 0);
    }
}
