import java.math.BigInteger;

/** The edges of part 5 of the document: SHEETS, TELLING, TRACE, and promises 19 to 29. */
public final class SheetsEdgesTest {
    private static final int UNKNOWN = ValuePlaces.UNKNOWN, OUTSIDE = ValuePlaces.OUTSIDE, NONE = ValuePlaces.NONE;
    private static final int LEAST = Due.LEAST, GREATEST = Due.GREATEST;
    private static final int NULL = 1, CAST = 2, INDEX = 3, SIZE = 4;
    private static final long LOST = ValuePlaces.LOST;

    private static final Due due = new Due("SheetsEdgesTest");

    public static void main(String[] args) {
        rows();
        lanes();
        cutToTheLane();
        tellingOfPlainOnes();
        tellingOfBulkyOnes();
        tellingOfDoubleOnes();
        labels();
        traceWraps();
        sheet();
        sheetRefused();
        lose();
        put();
        putRefused();
        cell();
        cellRefused();
        copy();
        copyOfTheSame();
        copyRefused();
        copyIndex();
        tell();
        as();
        faultAtFirst();
        faultOfTheLatest();
        faultOfCallsThatNameNone();
        many();
        due.end();
    }

    /** cell answers LOST, and fault() tells why: 0, if the call was refused. */
    private static void lost(ValuePlaces x, int fault, int k, int i, int lane) {
        due.is("cell(" + k + ", " + i + ", " + lane + ")", x.cell(k, i, lane), LOST);
        due.is("fault() behind cell(" + k + ", " + i + ", " + lane + ")", x.fault(), fault);
    }

    // ---- SHEETS

    private static void rows() {
        due.says(0, "SHEETS 0 .. 3 have nothing (at first), or a row of 0 .. 60 numbers (0 at first)");
        for (int n : new int[] {0, 1, 2, 59, 60}) {
            ValuePlaces x = new ValuePlaces();
            for (int k = 0; k < 4; k++) {
                lost(x, NULL, k, 0, 0);
                due.is("sheet", x.sheet(k, k % 3, n), 1);
                for (int i = 0; i < n; i++) {
                    due.is("cell " + i + " of " + n, x.cell(k, i, k % 3), 0);
                }
                lost(x, INDEX, k, n, k % 3);
                lost(x, INDEX, k, -1, k % 3);
            }
        }
    }

    private static void lanes() {
        due.says(0, "of a LANE: 0 bytes, 1 shorts, 2 ints");
        int[][] most = {{127, -128}, {32767, -32768}, {GREATEST, LEAST}};
        ValuePlaces x = new ValuePlaces();
        for (int lane = 0; lane < 3; lane++) {
            x.sheet(lane, lane, 1);
            for (int number : most[lane]) {
                x.put(lane, 0, number);
                due.is("lane " + lane + " has " + number, x.cell(lane, 0, lane), number);
            }
        }
    }

    private static void cutToTheLane() {
        due.says(0, "what comes to a cell of it is cut to its LANE.");
        int[] numbers = {128, -129, 255, 256, -256, 32768, -32769, 65535, 65536, 65664, GREATEST, LEAST, LEAST + 128};
        long[] bytes = {-128, 127, -1, 0, 0, 0, -1, -1, 0, -128, -1, 0, -128};
        long[] shorts = {128, -129, 255, 256, -256, -32768, 32767, -1, 0, 128, -1, 0, 128};
        ValuePlaces x = new ValuePlaces();
        for (int lane = 0; lane < 3; lane++) {
            x.sheet(lane, lane, 1);
        }
        for (int n = 0; n < numbers.length; n++) {
            for (int lane = 0; lane < 3; lane++) {
                long want = lane == 0 ? bytes[n] : lane == 1 ? shorts[n] : numbers[n];
                x.put(lane, 0, numbers[n]);
                due.is(numbers[n] + " in lane " + lane, x.cell(lane, 0, lane), want);
            }
        }
        // A TEXT and COPIES are of what is there then.
        Due.row(x, 3, 0, 114 + 256, 59 - 256, 112 + 65536, 45);
        due.is("a TEXT of bytes", x.lines(3, 0, 0, 4), 1);
        Due.row(x, 3, 1, 114 + 256, 59, 112, 45);
        due.is("no TEXT of shorts", x.lines(3, 1, 0, 4), -100);
        Due.row(x, 3, 1, 65537, 65536);
        due.is("COPIES of shorts", x.copies(3, 1, 0, 2, 0), 3);
    }

    // ---- TELLING

    /** What TRACE is behind these bodies, without a machine's int. */
    private static int traceOf(int... bodies) {
        BigInteger trace = BigInteger.ZERO;
        for (int body : bodies) {
            trace = trace.multiply(BigInteger.valueOf(31)).add(BigInteger.valueOf(body));
        }
        return trace.intValue();
    }

    private static void tellingOfPlainOnes() {
        due.says(0, "TELLING of VALUES by bodies that leave their number in TRACE");
        due.is("at first", new ValuePlaces().trace(), 0);
        due.is("a TEXT leaves none", Due.of("r;d-;b0").trace(), 0);
        due.says(0, "as they begin: PLAIN (1): how many LINES USE it.");
        for (int users = 0; users < 8; users++) {
            ValuePlaces x = Due.of("r;p-" + ";p00".repeat(users));
            due.is("tell", x.tell(0), users);
            due.is("trace", x.trace(), 1);
        }
    }

    private static void tellingOfBulkyOnes() {
        due.says(0, "BULKY (2): what PLAIN's gives, and 100.");
        for (int users = 0; users < 8; users++) {
            ValuePlaces x = Due.of("r;b-" + ";p00".repeat(users));
            due.is("tell", x.tell(0), 100 + users);
            due.is("trace", x.trace(), traceOf(2, 1));
            due.is("trace", x.trace(), 63);
        }
    }

    private static void tellingOfDoubleOnes() {
        due.says(0, "DOUBLE (3): what BULKY's gives, and what PLAIN's gives (BULKY's left out).");
        for (int users = 0; users < 8; users++) {
            ValuePlaces x = Due.of("r;d-" + ";p00".repeat(users));
            due.is("tell", x.tell(0), 100 + 2 * users);
            due.is("trace", x.trace(), traceOf(3, 2, 1, 1));
            due.is("trace", x.trace(), 91327);
        }
    }

    private static void labels() {
        due.says(0, "LABELLED by a lent body (4): its number; DOUBLE ones have their own (5): 90.");
        for (int kind = 0; kind < 3; kind++) {
            ValuePlaces x = Due.of("r;p-;p0;p1;p2;p3;p4;p5;p6".replace('p', "pbd".charAt(kind)));
            int trace = 0;
            for (int v = 0; v < 8; v++) {
                due.is("label of " + v, x.label(v), kind == 2 ? 90 : v);
                trace = 31 * trace + (kind == 2 ? 5 : 4);
                due.is("trace", x.trace(), trace);
            }
        }
    }

    private static void traceWraps() {
        due.says(0, "(an int that wraps, 0 at first, becomes 31 times it and the number)");
        ValuePlaces x = Due.of("r;p-;d0");
        int[] bodies = new int[100];
        for (int n = 0; n < 100; n++) {
            boolean isDouble = n % 3 == 0;
            x.label(isDouble ? 1 : 0);
            bodies[n] = isDouble ? 5 : 4;
            due.is("trace behind " + (n + 1), x.trace(), traceOf(java.util.Arrays.copyOf(bodies, n + 1)));
        }
        // The eighth would be 28429701248, which is 6 times 2^32 and 2659897472.
        ValuePlaces y = Due.of("r;p-");
        int[] traces = {1, 32, 993, 30784, 954305, 29583456, 917087137, -1635069824};
        for (int trace : traces) {
            y.tell(0);
            due.is("trace", y.trace(), trace);
        }
    }

    // ---- Promises 19, 20

    private static void sheet() {
        due.says(19, "A SHEET gets a new row: 1.");
        ValuePlaces x = new ValuePlaces();
        for (int k = 0; k < 4; k++) {
            Due.row(x, k, 2, 7, 8, 9);
            due.is("as long, of another LANE", x.sheet(k, 1, 3), 1);
            for (int i = 0; i < 3; i++) {
                due.is("of zeros", x.cell(k, i, 1), 0);
            }
            lost(x, CAST, k, 0, 2);
            Due.row(x, k, 0, 1, 2, 3);
            due.is("shorter", x.sheet(k, 0, 1), 1);
            due.is("of zeros", x.cell(k, 0, 0), 0);
            lost(x, INDEX, k, 1, 0);
            due.is("longer", x.sheet(k, 0, 3), 1);
            due.is("what was behind is gone", x.cell(k, 2, 0), 0);
            due.is("the others stay", x.lose((k + 1) % 4), k == 3 ? 1 : 0);
        }
    }

    private static void sheetRefused() {
        ValuePlaces x = new ValuePlaces();
        due.says(19, "UNKNOWN;");
        due.all("sheet", k -> x.sheet(k, 0, 1), UNKNOWN, LEAST, -1, 4, GREATEST);
        due.all("sheet", k -> x.sheet(k, 0, 1), 1, 0, 1, 2, 3);
        Due.row(x, 0, 1, 5);
        due.says(19, "OUTSIDE: lane, n above 60");
        due.all("lane", lane -> x.sheet(0, lane, 1), OUTSIDE, LEAST, -1, 3, GREATEST);
        due.all("n", n -> x.sheet(0, 0, n), OUTSIDE, 61, GREATEST);
        due.is("what it had", x.cell(0, 0, 1), 5);
        due.all("lane", lane -> x.sheet(1, lane, 1), 1, 0, 1, 2);
        due.all("n", n -> x.sheet(1, 0, n), 1, 0, 1, 60);
        due.says(19, "SIZE.");
        due.fails(x, "n", n -> x.sheet(0, 0, n), SIZE, LEAST, -60, -1);
        due.is("what it had", x.cell(0, 0, 1), 5);
        due.fails(x, "n, of a SHEET that has nothing", n -> x.sheet(2, 0, n), SIZE, -1);
        due.is("n of 0", x.sheet(0, 0, 0), 1);
        due.is("fault", x.fault(), 0);
    }

    private static void lose() {
        due.says(20, "A SHEET has nothing: 1; 0: it had nothing.");
        ValuePlaces x = new ValuePlaces();
        for (int k = 0; k < 4; k++) {
            due.is("it had nothing", x.lose(k), 0);
            x.sheet(k, 2, 0);
            due.is("a row of none is something", x.lose(k), 1);
            due.is("it had nothing", x.lose(k), 0);
            Due.row(x, k, 2, 1, 2);
            due.is("a row", x.lose(k), 1);
            lost(x, NULL, k, 0, 2);
            x.sheet(k, 2, 2);
            due.is("what it had is gone", x.cell(k, 0, 2), 0);
        }
        due.says(20, "UNKNOWN.");
        due.all("sheet", x::lose, UNKNOWN, LEAST, -1, 4, GREATEST);
        due.all("the others", x::lose, 1, 0, 1, 2, 3);
    }

    // ---- Promises 21, 22

    private static void put() {
        due.says(21, "Cell i of a SHEET becomes v: 1.");
        ValuePlaces x = new ValuePlaces();
        for (int k = 0; k < 4; k++) {
            x.sheet(k, 2, 60);
            due.is("the first", x.put(k, 0, LEAST), 1);
            due.is("the last", x.put(k, 59, GREATEST), 1);
            due.is("the first", x.cell(k, 0, 2), LEAST);
            due.is("the second", x.cell(k, 1, 2), 0);
            due.is("the last but one", x.cell(k, 58, 2), 0);
            due.is("the last", x.cell(k, 59, 2), GREATEST);
        }
    }

    private static void putRefused() {
        ValuePlaces x = new ValuePlaces();
        due.says(21, "UNKNOWN;");
        due.all("sheet", k -> x.put(k, 0, 0), UNKNOWN, LEAST, -1, 4, GREATEST);
        due.is("fault", x.fault(), 0);
        due.says(21, "NULL;");
        due.fails(x, "sheet", k -> x.put(k, 0, 0), NULL, 0, 1, 2, 3);
        due.fails(x, "i", i -> x.put(0, i, 0), NULL, LEAST, -1, 60, GREATEST);
        due.says(21, "INDEX.");
        Due.row(x, 0, 0, 4, 5);
        due.fails(x, "i", i -> x.put(0, i, 9), INDEX, LEAST, -1, 2, 60, GREATEST);
        due.is("the first", x.cell(0, 0, 0), 4);
        due.is("the last", x.cell(0, 1, 0), 5);
        x.sheet(1, 0, 0);
        due.fails(x, "i of a row of none", i -> x.put(1, i, 9), INDEX, -1, 0, 1);
    }

    private static void cell() {
        due.says(22, "Cell i of what a SHEET has, taken as a row of a LANE.");
        for (int k = 0; k < 4; k++) {
            for (int lane = 0; lane < 3; lane++) {
                ValuePlaces x = new ValuePlaces();
                Due.row(x, k, lane, -1, 0, 127);
                due.is("the first", x.cell(k, 0, lane), -1);
                due.is("the last", x.cell(k, 2, lane), 127);
                due.is("fault", x.fault(), 0);
            }
        }
        ValuePlaces x = new ValuePlaces();
        Due.row(x, 0, 2, LEAST);
        due.is("the least int is not LOST", x.cell(0, 0, 2), LEAST);
    }

    private static void cellRefused() {
        ValuePlaces x = new ValuePlaces();
        Due.row(x, 0, 1, 5, 6);
        due.says(22, "LOST: UNKNOWN");
        for (int k : new int[] {LEAST, -1, 4, GREATEST}) {
            x.put(3, 0, 0);
            lost(x, 0, k, 0, 1);
        }
        due.says(22, "OUTSIDE: lane");
        for (int lane : new int[] {LEAST, -1, 3, GREATEST}) {
            x.put(3, 0, 0);
            lost(x, 0, 0, 0, lane);
        }
        due.says(22, "FAULTS CAST (nothing is no CAST), NULL");
        lost(x, CAST, 0, 0, 0);
        lost(x, CAST, 0, 0, 2);
        x.lose(0);
        for (int lane = 0; lane < 3; lane++) {
            lost(x, NULL, 0, 0, lane);
            lost(x, NULL, 3, -1, lane);
        }
        due.says(22, "INDEX.");
        Due.row(x, 0, 1, 5, 6);
        for (int i : new int[] {LEAST, -1, 2, 60, GREATEST}) {
            lost(x, INDEX, 0, i, 1);
        }
        x.sheet(1, 1, 0);
        lost(x, INDEX, 1, 0, 1);
    }

    // ---- Promise 23

    private static void row(ValuePlaces x, int k, int lane, int... numbers) {
        for (int i = 0; i < numbers.length; i++) {
            due.is("cell " + i, x.cell(k, i, lane), numbers[i]);
        }
        lost(x, INDEX, k, numbers.length, lane);
    }

    private static void copy() {
        due.says(23, "n cells of a SHEET from i on go to another one");
        for (int lane = 0; lane < 3; lane++) {
            ValuePlaces x = new ValuePlaces();
            Due.row(x, 0, lane, 1, 2, 3);
            Due.row(x, 3, lane, 4, 5, 6, 7);
            due.is("none", x.copy(0, 0, 3, 0, 0), 0);
            row(x, 3, lane, 4, 5, 6, 7);
            due.is("none, at the ends", x.copy(0, 3, 3, 4, 0), 0);
            row(x, 3, lane, 4, 5, 6, 7);
            due.is("one, the last", x.copy(0, 2, 3, 3, 1), 1);
            row(x, 3, lane, 4, 5, 6, 3);
            due.is("all", x.copy(0, 0, 3, 0, 3), 3);
            row(x, 3, lane, 1, 2, 3, 3);
            row(x, 0, lane, 1, 2, 3);
            due.is("two, to the other one's last", x.copy(0, 0, 3, 2, 2), 2);
            due.is("fault", x.fault(), 0);
            row(x, 3, lane, 1, 2, 1, 2);
        }
        ValuePlaces x = new ValuePlaces();
        int[] sixty = new int[60];
        java.util.Arrays.setAll(sixty, i -> i + 1);
        Due.row(x, 1, 0, sixty);
        x.sheet(2, 0, 60);
        due.is("all 60", x.copy(1, 0, 2, 0, 60), 60);
        row(x, 2, 0, sixty);
        x.sheet(1, 0, 0);
        due.is("none of a row of none", x.copy(1, 0, 1, 0, 0), 0);
    }

    private static void copyOfTheSame() {
        due.says(23, "(perhaps the same) from j on, as they were: n.");
        ValuePlaces x = new ValuePlaces();
        Due.row(x, 0, 2, 1, 2, 3, 4, 5);
        due.is("up by one", x.copy(0, 0, 0, 1, 4), 4);
        row(x, 0, 2, 1, 1, 2, 3, 4);
        due.is("down by two", x.copy(0, 2, 0, 0, 3), 3);
        row(x, 0, 2, 2, 3, 4, 3, 4);
        due.is("all where they are", x.copy(0, 0, 0, 0, 5), 5);
        row(x, 0, 2, 2, 3, 4, 3, 4);
        due.is("none at the end", x.copy(0, 5, 0, 5, 0), 0);
        row(x, 0, 2, 2, 3, 4, 3, 4);
    }

    private static void copyRefused() {
        ValuePlaces x = new ValuePlaces();
        Due.row(x, 0, 0, 1, 2, 3);
        Due.row(x, 1, 0, 4, 5);
        due.says(23, "UNKNOWN;");
        due.all("first", k -> x.copy(k, 0, 0, 0, 1), UNKNOWN, LEAST, -1, 4, GREATEST);
        due.all("other", k -> x.copy(0, 0, k, 0, 1), UNKNOWN, LEAST, -1, 4, GREATEST);
        due.all("first, the other has nothing", k -> x.copy(k, 0, 3, 0, 1), UNKNOWN, -1, 4);
        due.all("other, the first has nothing", k -> x.copy(3, 0, k, 0, 1), UNKNOWN, -1, 4);
        due.is("fault", x.fault(), 0);
        due.says(23, "FAULTS NULL (the first, the other)");
        due.fails(x, "first", k -> x.copy(k, 0, 0, 0, 1), NULL, 2, 3);
        due.fails(x, "other", k -> x.copy(0, 0, k, 0, 1), NULL, 2, 3);
        due.fails(x, "both", k -> x.copy(k, 0, k, 0, 0), NULL, 2, 3);
        due.says(23, "CAST (unlike LANES)");
        for (int from = 0; from < 3; from++) {
            for (int to = 0; to < 3; to++) {
                Due.row(x, 2, from, 7);
                Due.row(x, 3, to, 8);
                due.is(from + " to " + to, x.copy(2, 0, 3, 0, 1), from == to ? 1 : -12);
                due.is("fault", x.fault(), from == to ? 0 : CAST);
                due.is("cell", x.cell(3, 0, to), from == to ? 7 : 8);
                due.is("none of them, " + from + " to " + to, x.copy(2, 0, 3, 0, 0), from == to ? 0 : -12);
            }
        }
    }

    private static void copyIndex() {
        due.says(23, "INDEX: i, j, n below 0 or beyond.");
        ValuePlaces x = new ValuePlaces();
        Due.row(x, 0, 0, 1, 2, 3);
        Due.row(x, 1, 0, 4, 5);
        due.fails(x, "i, of one", i -> x.copy(0, i, 1, 0, 1), INDEX, LEAST, -1, 3, GREATEST);
        due.fails(x, "i, of none", i -> x.copy(0, i, 1, 0, 0), INDEX, LEAST, -1, 4, GREATEST);
        due.fails(x, "i, of two", i -> x.copy(0, i, 1, 0, 2), INDEX, -1, 2, 3, GREATEST - 1);
        due.fails(x, "j, of one", j -> x.copy(0, 0, 1, j, 1), INDEX, LEAST, -1, 2, GREATEST);
        due.fails(x, "j, of none", j -> x.copy(0, 0, 1, j, 0), INDEX, LEAST, -1, 3, GREATEST);
        due.fails(x, "j, of two", j -> x.copy(0, 0, 1, j, 2), INDEX, -1, 1, 2, GREATEST - 1);
        due.fails(x, "n", n -> x.copy(0, 0, 1, 0, n), INDEX, LEAST, -1, 3, 4, GREATEST);
        due.fails(x, "n, the other way", n -> x.copy(1, 0, 0, 0, n), INDEX, LEAST, -1, 3, 4, GREATEST);
        due.fails(x, "n, from 1 on", n -> x.copy(0, 1, 1, 1, n), INDEX, LEAST, -1, 2, GREATEST);
        due.fails(x, "n below 0, from the ends on", n -> x.copy(0, 3, 1, 2, n), INDEX, LEAST, -2, -1, 1);
        row(x, 0, 0, 1, 2, 3);
        row(x, 1, 0, 4, 5);
    }

    // ---- Promises 24 to 27

    private static void tell() {
        due.says(24, "TELLING of a VALUE.");
        ValuePlaces x = Due.of("r;p-;b0;d1;p201;p312;p420;p5;p6");
        int[] told = {2, 102, 104, 0, 0, 0, 0, 0};
        for (int v = 0; v < 8; v++) {
            due.is("tell " + v, x.tell(v), told[v]);
        }
        due.says(24, "UNKNOWN.");
        ValuePlaces y = Due.of("r;d-;p0");
        due.all("value", y::tell, UNKNOWN, LEAST, NONE, -1, 2, 8, GREATEST);
        due.is("trace", y.trace(), 0);
        due.is("the last", y.tell(1), 0);
        due.says(25, "How it is LABELLED.");
        due.is("DOUBLE", y.label(0), 90);
        due.is("PLAIN", y.label(1), 1);
        due.says(25, "UNKNOWN.");
        int trace = y.trace();
        due.all("value", y::label, UNKNOWN, LEAST, NONE, -1, 2, 8, GREATEST);
        due.is("trace", y.trace(), trace);
        due.says(27, "TRACE.");
        due.is("trace", trace, traceOf(1, 5, 4));
        due.is("it stays", y.trace(), trace);
        due.is("a TEXT leaves it", Due.read(y, "r;p-"), 1);
        due.is("it stays", y.trace(), trace);
    }

    private static void as() {
        due.says(26, "A VALUE, taken as one of a kind: 1.");
        ValuePlaces x = Due.of("r;p-;b0;d1");
        due.is("PLAIN as PLAIN", x.as(0, 0), 1);
        due.is("BULKY as BULKY", x.as(1, 1), 1);
        due.is("DOUBLE as DOUBLE", x.as(2, 2), 1);
        due.says(26, "UNKNOWN;");
        due.all("value", v -> x.as(v, 0), UNKNOWN, LEAST, NONE, -1, 3, 8, GREATEST);
        due.says(26, "OUTSIDE;");
        due.all("kind of a PLAIN one", kind -> x.as(0, kind), OUTSIDE, LEAST, -1, 3, GREATEST);
        due.all("kind of a DOUBLE one", kind -> x.as(2, kind), OUTSIDE, LEAST, -1, 3, GREATEST);
        due.is("fault", x.fault(), 0);
        due.says(26, "CAST: it is none (each is a PLAIN one, too; a DOUBLE one is a BULKY one).");
        due.fails(x, "PLAIN as", kind -> x.as(0, kind), CAST, 1, 2);
        due.fails(x, "BULKY as", kind -> x.as(1, kind), CAST, 2);
        due.all("each as PLAIN", v -> x.as(v, 0), 1, 0, 1, 2);
        due.is("DOUBLE as BULKY", x.as(2, 1), 1);
        due.is("fault", x.fault(), 0);
    }

    // ---- Promise 28

    private static void faultAtFirst() {
        due.says(28, "(0 ahead of any).");
        ValuePlaces x = new ValuePlaces();
        due.is("at first", x.fault(), 0);
        x.many(0);
        x.lose(0);
        x.cut();
        due.is("behind calls that name none", x.fault(), 0);
    }

    private static void faultOfTheLatest() {
        due.says(28, "The FAULT of the latest call that names one: 0: it came to none, or was refused");
        // Of each call that names FAULTS: done, refused, and some that come to one.
        int[][] calls = {{0, 0, 0, 0, 4}, {0, 9, 0, 0, 4}, {0, 0, 9, 0, 4}, {6, 0, 0, 0, 0, 0}, {6, 9, 0, 0, 0, 0},
            {6, 0, 0, 0, 99, 0}, {11, 0, 0, 0, 0, 0}, {11, 9, 0, 0, 0, 0}, {11, 0, 0, 0, 4, 0}, {17, 3, 0, 4},
            {17, 9, 0, 4}, {17, 3, 0, 99}, {19, 0, 0, 114}, {19, 9, 0, 0}, {20, 0, 0, 0}, {20, 9, 0, 0}, {20, 0, 0, 9},
            {21, 0, 0, 0, 0, 4}, {21, 0, 0, 9, 0, 4}, {24, 0, 0}, {24, 9, 0}, {24, 0, 9}, {0, 0, 0, 0, 2}};
        for (int[] call : calls) {
            ValuePlaces x = Due.of("r;p-");
            Due.row(x, 0, 0, Due.codes("r;p-"));
            due.is("put", x.put(1, 0, 0), -11);
            due.is("fault", x.fault(), NULL);
            Faces.call(x, call[0], java.util.Arrays.copyOfRange(call, 1, 7));
            due.is("fault behind " + java.util.Arrays.toString(call), x.fault(), 0);
            due.is("sheet", x.sheet(1, 0, -1), -14);
            due.is("the next FAULT", x.fault(), SIZE);
            due.is("as", x.as(0, 1), -12);
            due.is("the next FAULT", x.fault(), CAST);
            due.is("put", x.put(0, 9, 0), -13);
            due.is("the next FAULT", x.fault(), INDEX);
        }
        // A DAY without LINES is refused behind its FAULTS.
        ValuePlaces x = new ValuePlaces();
        x.sheet(0, 0, 0);
        x.put(0, 0, 0);
        due.is("fault", x.fault(), INDEX);
        x.day(0, 0, 0, 0, 0);
        due.is("fault", x.fault(), 0);
    }

    private static void faultOfCallsThatNameNone() {
        due.says(28, "the latest call that names one");
        int[][] calls = {{1, 0, 0}, {1, 9, 0}, {2, 1, 0}, {2, 9, 0}, {3, 1, 0, 0}, {3, 9, 0, 0}, {4, 0, 0, NONE, NONE},
            {4, 9, 0, 0, 0}, {5}, {7, 0, 1}, {7, 9, 0}, {8, 0}, {8, 9}, {9, 0, 1}, {9, 9, 9}, {10, 3, 0}, {10, 0, 0},
            {12, 0, 0}, {12, 9, 0}, {13, 0}, {13, 9}, {14, 0}, {14, 9}, {15, 1}, {15, 9}, {16, 0}, {16, 9}, {18, 0},
            {18, 9}, {22, 0}, {22, 9}, {23, 0}, {23, 9}, {25}, {26}, {27, 0}, {27, 9}};
        for (int fault = 1; fault <= 4; fault++) {
            ValuePlaces x = Due.of("r;p-;p00;p1");
            x.sheet(0, 0, 1);
            long came = fault == NULL ? x.put(1, 0, 0) : fault == CAST ? x.as(0, 1)
                : fault == INDEX ? x.put(0, 9, 0) : x.sheet(0, 0, -1);
            due.is("it came to " + fault, came, -10 - fault);
            for (int[] call : calls) {
                Faces.call(x, call[0], java.util.Arrays.copyOfRange(call, 1, 6));
                due.is("fault behind " + Faces.NAMES[call[0]], x.fault(), fault);
            }
        }
    }

    // ---- Promise 29

    private static void many() {
        due.says(29, "How many: 0 LINES, 1 USED ones of all, 2 the greatest PRESSURE, 3 COLOURS, 4 READINGS");
        String[] texts = {"r;p-", "r;p-;p00", "r;p-;p0;p110", "r;p-;p0;p1;p2;p3;p401;p523;p64",
            "r;p-;p00;p101;p201;p301;p401;p501;p601"};
        int[][] all = {{1, 0, 1, 1, 0}, {2, 1, 1, 1, 1}, {3, 2, 2, 2, 2}, {8, 5, 5, 5, 3}, {8, 13, 3, 3, 4}};
        for (int t = 0; t < texts.length; t++) {
            ValuePlaces x = Due.of(texts[t]);
            for (int r = 0; r < t; r++) {
                x.reading(0, 0);
            }
            for (int what = 0; what < 5; what++) {
                due.is("many(" + what + ") of " + texts[t], x.many(what), all[t][what]);
            }
        }
        due.says(29, "(0 all without LINES).");
        ValuePlaces none = new ValuePlaces();
        due.all("what", none::many, 0, 0, 1, 2, 3, 4);
        due.says(29, "OUTSIDE.");
        due.all("what", none::many, OUTSIDE, LEAST, -1, 5, GREATEST);
        ValuePlaces x = Due.of("r;p-");
        due.all("what", x::many, OUTSIDE, LEAST, -1, 5, GREATEST);
    }
}
