/** Promises 19 to 29: sheet, lose, put, cell, copy, tell, label, as, trace, fault, many. */
public final class SheetsTest {
    private static final int UNKNOWN = ValuePlaces.UNKNOWN, OUTSIDE = ValuePlaces.OUTSIDE;
    private static final long LOST = ValuePlaces.LOST;
    private static final Due due = new Due("SheetsTest");

    public static void main(String[] args) {
        sheet();
        lose();
        put();
        cell();
        copy();
        copyRefused();
        tell();
        label();
        as();
        traceWraps();
        fault();
        many();
        due.end();
    }

    private static void sheet() {
        ValuePlaces x = new ValuePlaces();
        due.is("sheet", x.sheet(0, 0, 60), 1);
        due.is("no sheet", x.sheet(4, 9, -1), UNKNOWN);
        due.is("no sheet", x.sheet(-1, 0, 0), UNKNOWN);
        due.is("lane", x.sheet(0, 3, -1), OUTSIDE);
        due.is("lane", x.sheet(0, -1, 0), OUTSIDE);
        due.is("n", x.sheet(0, 0, 61), OUTSIDE);
        due.is("n", x.sheet(0, 0, Integer.MAX_VALUE), OUTSIDE);
        due.is("fault", x.fault(), 0);
        due.is("size", x.sheet(0, 0, -1), -14);
        due.is("fault", x.fault(), 4);
        due.is("size", x.sheet(0, 2, Integer.MIN_VALUE), -14);
        x.put(0, 59, 7);
        x.put(0, 0, 8);
        due.is("still there", x.cell(0, 59, 0), 7);
        due.is("a new row", x.sheet(0, 1, 60), 1);
        due.is("of zeros", x.cell(0, 59, 1), 0);
        due.is("of zeros", x.cell(0, 0, 1), 0);
        due.is("of 0 numbers", x.sheet(0, 1, 0), 1);
        due.is("index", x.put(0, 0, 1), -13);
        due.is("it is not nothing", x.lose(0), 1);
    }

    private static void lose() {
        ValuePlaces x = new ValuePlaces();
        due.is("nothing", x.lose(3), 0);
        x.sheet(3, 2, 1);
        due.is("something", x.lose(3), 1);
        due.is("nothing", x.lose(3), 0);
        due.is("null", x.put(3, 0, 0), -11);
        due.is("no sheet", x.lose(4), UNKNOWN);
        due.is("no sheet", x.lose(-1), UNKNOWN);
        due.is("it names no fault", x.fault(), 1);
    }

    private static void put() {
        ValuePlaces x = new ValuePlaces();
        for (int lane = 0; lane < 3; lane++) {
            x.sheet(lane, lane, 3);
        }
        int[] numbers = {127, 128, -129, 255, 256, 32767, 32768, -32769, 65536 + 5, Integer.MIN_VALUE, Integer.MAX_VALUE};
        for (int v : numbers) {
            for (int lane = 0; lane < 3; lane++) {
                due.is("put", x.put(lane, 1, v), 1);
                due.is("cell", x.cell(lane, 1, lane), lane == 0 ? (byte) v : lane == 1 ? (short) v : v);
            }
        }
        due.is("no sheet", x.put(4, 0, 0), UNKNOWN);
        due.is("no sheet", x.put(-1, 0, 0), UNKNOWN);
        due.is("null", x.put(3, -1, 0), -11);
        for (int i : new int[] {-1, 3, Integer.MIN_VALUE, Integer.MAX_VALUE}) {
            due.is("index", x.put(0, i, 5), -13);
            due.is("fault", x.fault(), 3);
        }
        due.is("the others", x.cell(0, 0, 0), 0);
        due.is("the others", x.cell(0, 2, 0), 0);
    }

    private static void cell() {
        ValuePlaces x = new ValuePlaces();
        Due.row(x, 0, 1, 5, -6);
        due.is("cell", x.cell(0, 1, 1), -6);
        due.is("fault", x.fault(), 0);
        due.is("cast", x.cell(0, 9, 2), LOST);
        due.is("fault", x.fault(), 2);
        due.is("no sheet", x.cell(4, 0, 1), LOST);
        due.is("fault", x.fault(), 0);
        due.is("null", x.cell(1, 9, 2), LOST);
        due.is("fault", x.fault(), 1);
        due.is("lane", x.cell(1, 0, 3), LOST);
        due.is("fault", x.fault(), 0);
        due.is("index", x.cell(0, 2, 1), LOST);
        due.is("fault", x.fault(), 3);
        due.is("index", x.cell(0, -1, 1), LOST);
        due.is("lane", x.cell(0, 0, -1), LOST);
        due.is("fault", x.fault(), 0);
        due.is("no sheet", x.cell(-1, 0, 1), LOST);
        // Its old LANE is no CAST any more.
        x.lose(0);
        due.is("nothing is no cast", x.cell(0, 0, 2), LOST);
        due.is("fault", x.fault(), 1);
    }

    private static void row(ValuePlaces x, int k, int lane, int... numbers) {
        for (int i = 0; i < numbers.length; i++) {
            due.is("cell " + i, x.cell(k, i, lane), numbers[i]);
        }
    }

    private static void copy() {
        ValuePlaces x = new ValuePlaces();
        Due.row(x, 0, 0, 1, 2, 3, 4, 5);
        Due.row(x, 1, 0, 9, 8, 7);
        due.is("to another one", x.copy(0, 3, 1, 0, 2), 2);
        row(x, 1, 0, 4, 5, 7);
        row(x, 0, 0, 1, 2, 3, 4, 5);
        due.is("up", x.copy(0, 0, 0, 1, 4), 4);
        row(x, 0, 0, 1, 1, 2, 3, 4);
        due.is("down", x.copy(0, 1, 0, 0, 4), 4);
        row(x, 0, 0, 1, 2, 3, 4, 4);
        due.is("none, at the ends", x.copy(0, 5, 1, 3, 0), 0);
        due.is("fault", x.fault(), 0);
    }

    private static void copyRefused() {
        ValuePlaces x = new ValuePlaces();
        Due.row(x, 0, 0, 1, 2, 3, 4, 5);
        Due.row(x, 1, 0, 9, 8, 7);
        Due.row(x, 2, 1, 6);
        due.is("no sheet", x.copy(4, 0, 0, 0, 0), UNKNOWN);
        due.is("no sheet", x.copy(0, 0, -1, 0, 0), UNKNOWN);
        due.is("null", x.copy(3, -1, 0, 0, 0), -11);
        due.is("null", x.copy(0, -1, 3, 0, 0), -11);
        due.is("null", x.copy(3, 0, 3, 0, 0), -11);
        due.is("fault", x.fault(), 1);
        due.is("cast", x.copy(0, -1, 2, 0, 0), -12);
        due.is("fault", x.fault(), 2);
        int max = Integer.MAX_VALUE;
        int[][] cells = {{-1, 0, 0}, {0, -1, 0}, {0, 0, -1}, {6, 0, 0}, {0, 4, 0}, {3, 0, 3}, {0, 1, 3}, {0, 0, 4},
            {max, 0, 1}, {0, max, 1}, {0, 0, max}, {1, 1, max}, {max, max, max}, {Integer.MIN_VALUE, 0, 0}};
        for (int[] c : cells) {
            due.is("index", x.copy(0, c[0], 1, c[1], c[2]), -13);
            due.is("fault", x.fault(), 3);
        }
        row(x, 0, 0, 1, 2, 3, 4, 5);
        row(x, 1, 0, 9, 8, 7);
        x.lose(2);
        due.is("null comes ahead of cast", x.copy(0, 0, 2, 0, 0), -11);
    }

    private static void tell() {
        // All three are USED twice.
        ValuePlaces x = Due.of("r;p-;b0;d1;p201;p312;p420");
        due.is("tell", x.tell(0), 2);
        due.is("trace", x.trace(), 1);
        due.is("tell", x.tell(1), 102);
        due.is("trace", x.trace(), (1 * 31 + 2) * 31 + 1);
        x = Due.of("r;p-;b0;d1;p201;p312;p420");
        due.is("tell", x.tell(2), 104);
        due.is("trace", x.trace(), ((3 * 31 + 2) * 31 + 1) * 31 + 1);
        int trace = x.trace();
        due.is("no value", x.tell(6), UNKNOWN);
        due.is("no value", x.tell(-1), UNKNOWN);
        due.is("trace", x.trace(), trace);
        due.is("of none", Due.of("r;d-").tell(0), 100);
    }

    private static void label() {
        ValuePlaces x = Due.of("r;p-;b0;d1;p2");
        due.is("label", x.label(0), 0);
        due.is("trace", x.trace(), 4);
        due.is("label", x.label(1), 1);
        due.is("trace", x.trace(), 4 * 31 + 4);
        due.is("label", x.label(2), 90);
        due.is("trace", x.trace(), (4 * 31 + 4) * 31 + 5);
        due.is("label", x.label(3), 3);
        int trace = x.trace();
        due.is("no value", x.label(4), UNKNOWN);
        due.is("no value", x.label(-1), UNKNOWN);
        due.is("trace", x.trace(), trace);
    }

    private static void as() {
        ValuePlaces x = Due.of("r;p-;b0;d1");
        for (int v = 0; v < 3; v++) {
            for (int kind = 0; kind < 3; kind++) {
                boolean fits = kind <= v;
                due.is("as(" + v + ", " + kind + ")", x.as(v, kind), fits ? 1 : -12);
                due.is("fault", x.fault(), fits ? 0 : 2);
            }
        }
        x.as(0, 2);
        due.is("kind", x.as(0, 3), OUTSIDE);
        due.is("fault", x.fault(), 0);
        due.is("kind", x.as(0, -1), OUTSIDE);
        due.is("no value", x.as(3, 3), UNKNOWN);
        due.is("no value", x.as(-1, 0), UNKNOWN);
    }

    private static void traceWraps() {
        ValuePlaces x = Due.of("r;d-");
        int trace = 0;
        for (int n = 0; n < 50; n++) {
            x.tell(0);
            for (int body : new int[] {3, 2, 1, 1}) {
                trace = 31 * trace + body;
            }
            due.is("trace", x.trace(), trace);
        }
    }

    private static void fault() {
        ValuePlaces x = Due.of("r;p-;p00");
        due.is("put", x.put(0, 0, 0), -11);
        // Calls that name none leave it alone.
        x.many(0);
        x.ofLine(9, 9);
        x.used(9, 9);
        x.reuse(9, 9, 9);
        x.grow(9, 9, 9, 9);
        x.cross(0, 0);
        x.most(9);
        x.next(9, 9);
        x.hold(9, 9);
        x.reading(9, 9);
        x.back(9);
        x.kinds(9);
        x.firsts(9);
        x.odds(9);
        x.lose(0);
        x.tell(0);
        x.label(0);
        x.trace();
        x.cut();
        due.is("fault", x.fault(), 1);
        due.is("fault", x.fault(), 1);
        // Calls that name one make it 0, done or refused.
        x.put(9, 0, 0);
        due.is("put refused", x.fault(), 0);
        x.put(0, 0, 0);
        x.sheet(0, 0, 4);
        due.is("sheet done", x.fault(), 0);
        x.sheet(0, 0, -4);
        x.put(0, 0, 0);
        due.is("put done", x.fault(), 0);
        x.sheet(0, 0, -4);
        x.copy(0, 0, 0, 1, 3);
        due.is("copy done", x.fault(), 0);
        x.sheet(0, 0, -4);
        x.copy(0, 0, 9, 1, 3);
        due.is("copy refused", x.fault(), 0);
        x.sheet(0, 0, -4);
        x.as(0, 0);
        due.is("as done", x.fault(), 0);
        x.sheet(0, 0, -4);
        x.day(0, 0, 0, 0, 0);
        due.is("day done", x.fault(), 0);
        x.sheet(0, 0, -4);
        x.copies(0, 0, 0, 0, 0);
        due.is("copies done", x.fault(), 0);
        x.sheet(0, 0, -4);
        x.lines(0, 0, 0, 4);
        due.is("lines done", x.fault(), 0);
    }

    private static void many() {
        ValuePlaces x = Due.of("r;p-;b00;p110;d21;p20;p42;b110;p60");
        x.reading(0, 0);
        x.reading(0, 0);
        int[] want = {8, 9, 3, 3, 2};
        for (int what = 0; what < 5; what++) {
            due.is("many(" + what + ")", x.many(what), want[what]);
        }
        due.is("what", x.many(5), OUTSIDE);
        due.is("what", x.many(-1), OUTSIDE);
    }
}
