import java.util.ArrayList;
import java.util.Arrays;
import java.util.List;
import java.util.Map;
import java.util.TreeMap;
import java.util.function.Supplier;

/**
 * What a call answers comes of how all is now, not of how it came to be so.
 *
 * The same LINES are made in several ways; each call is asked of each as the very first one, so that nothing asked in
 * between can set right what an earlier call left behind.
 */
public final class HistoryTest {
    private static final int NONE = ValuePlaces.NONE;

    private static final String LINES = "r;p-;b0;p1;d201;p3;p432;p0";
    private static final String EIGHT = "r;p-;p0;p1;p2;p3;p4;p5;p6";

    private static final Due due = new Due("HistoryTest");

    public static void main(String[] args) {
        due.says(0, "LINES are put on, taken away, USE other VALUES.");
        same(lines(), () -> told(LINES));
        due.says(1, "No LINES");
        same(none(), () -> last(new ValuePlaces()));
        due.end();
    }

    /** Sheet 0 has acts of a DAY, and the two READINGS are what the VALUES cost. */
    private static ValuePlaces last(ValuePlaces x) {
        Due.row(x, 0, 0, 5, 0, 1, 3, 1, 2);
        x.reading(0, 1);
        x.reading(2, 1);
        return x;
    }

    private static ValuePlaces told(String text) {
        return last(Due.of(text));
    }

    private static Map<String, Supplier<ValuePlaces>> lines() {
        Map<String, Supplier<ValuePlaces>> ways = new TreeMap<>();
        ways.put("grown", () -> {
            ValuePlaces x = Due.of("r;p-");
            x.grow(1, 0, NONE, NONE);
            x.grow(0, 1, NONE, NONE);
            x.grow(2, 2, 0, 1);
            x.grow(0, 3, NONE, NONE);
            x.grow(0, 4, 3, 2);
            x.grow(0, 0, NONE, NONE);
            return last(x);
        });
        ways.put("cut", () -> {
            ValuePlaces x = Due.of(LINES + ";d510");
            x.cut();
            return last(x);
        });
        ways.put("cut and grown", () -> {
            ValuePlaces x = Due.of("r;p-;b0;p1;d201;p3;d440;d501");
            x.cut();
            x.cut();
            x.grow(0, 4, 3, 2);
            x.grow(0, 0, NONE, NONE);
            return last(x);
        });
        ways.put("used otherwise", () -> {
            ValuePlaces x = Due.of("r;p-;b0;p1;d212;p3;p410;p0");
            x.reuse(3, 0, 0);
            x.reuse(3, 1, 1);
            x.reuse(5, 0, 3);
            x.reuse(5, 1, 2);
            return last(x);
        });
        ways.put("a DAY", () -> {
            ValuePlaces x = told(LINES);
            x.day(0, 0, 0, 2, 4);
            return x;
        });
        ways.put("a DAY with a FIRST WRONG", () -> {
            ValuePlaces x = told(LINES);
            x.put(0, 3, 9);
            x.day(0, 0, 0, 2, 3);
            x.put(0, 3, 3);
            return x;
        });
        for (String text : new String[] {"x", "r;d-;d", EIGHT + ";"}) {
            ways.put("no TEXT: " + text, () -> {
                ValuePlaces x = told(LINES);
                Due.read(x, text);
                x.lose(3);
                return x;
            });
        }
        ways.put("kinds", () -> {
            ValuePlaces x = told(LINES);
            x.kinds(0);
            return x;
        });
        ways.put("firsts", () -> {
            ValuePlaces x = told(LINES);
            x.firsts(5);
            return x;
        });
        ways.put("hold", () -> {
            ValuePlaces x = told(LINES);
            x.hold(8, 0);
            return x;
        });
        ways.put("another TEXT", () -> {
            ValuePlaces x = Due.of("r;d-;d00;d101;d212;d323;d434;d545;d656");
            x.reading(7, 9);
            Due.read(x, LINES);
            x.lose(3);
            return last(x);
        });
        return ways;
    }

    private static Map<String, Supplier<ValuePlaces>> none() {
        Map<String, Supplier<ValuePlaces>> ways = new TreeMap<>();
        for (String text : new String[] {"x", "r;p-;", EIGHT + ";"}) {
            ways.put("no TEXT: " + text, () -> {
                ValuePlaces x = new ValuePlaces();
                Due.read(x, text);
                x.lose(3);
                return last(x);
            });
        }
        return ways;
    }

    private static void same(Map<String, Supplier<ValuePlaces>> ways, Supplier<ValuePlaces> straight) {
        for (int[] call : calls()) {
            int[] arguments = Arrays.copyOfRange(call, 1, 6);
            long want = Faces.call(straight.get(), call[0], arguments);
            String name = Faces.NAMES[call[0]] + Arrays.toString(arguments) + " behind ";
            ways.forEach((way, made) -> due.is(name + way, Faces.call(made.get(), call[0], arguments), want));
        }
    }

    /** The number of a call and its arguments, of all that tell of LINES. */
    private static List<int[]> calls() {
        List<int[]> calls = new ArrayList<>();
        for (int l = -1; l < 9; l++) {
            for (int what = 0; what < 9; what++) {
                calls.add(new int[] {1, l, what});
            }
            for (int v = -1; v < 9; v++) {
                calls.add(new int[] {7, l, v});
                calls.add(new int[] {9, l, v});
                calls.add(new int[] {3, l, 0, v});
                calls.add(new int[] {3, l, 1, v});
                calls.add(new int[] {4, 0, l, v, NONE});
            }
            for (int kind = 0; kind < 3; kind++) {
                calls.add(new int[] {24, l, kind});
            }
            for (int which : new int[] {12, 14, 15, 22, 23}) {
                calls.add(new int[] {which, l});
            }
            calls.add(new int[] {2, l, 0});
            calls.add(new int[] {2, l, 1});
        }
        for (int what = 0; what < 18; what++) {
            for (int k = 3; k < 9; k++) {
                calls.add(new int[] {10, k, what});
            }
            for (int n = 0; n < 3; n++) {
                calls.add(new int[] {6, 0, 0, 0, n, what});
            }
            for (int which : new int[] {8, 13, 16, 27}) {
                calls.add(new int[] {which, what});
            }
        }
        calls.add(new int[] {5});
        calls.add(new int[] {25});
        return calls;
    }
}
