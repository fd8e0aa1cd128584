import java.util.Random;

/** Many runs of calls, told by a fixed seed, on the program and on the model: all answers must be alike. */
public final class ModelTest {
    /** What an object answers beyond 512 calls is free; all up to that are held against the model. */
    private static final int RUNS = 3300, CALLS = 512;
    private static final int[] PARAMETERS = {4, 2, 2, 3, 4, 0, 5, 2, 1, 2, 2, 5, 2, 1, 1, 1, 1, 3, 1, 3, 3, 5, 1, 1, 2, 0, 0, 1};
    private static final int[] ODD = {Integer.MIN_VALUE, Integer.MAX_VALUE, -100, 100, 61, 60, 20, 21, -1, -2, -9, 9, 30};
    private final long[] given = new long[PARAMETERS.length];
    private final long[] refused = new long[PARAMETERS.length];
    private final Random random = new Random(20261118);
    private ValuePlaces x;
    private Model model;
    private int wrong;
    private int run;
    private int calls;

    public static void main(String[] args) {
        ModelTest test = new ModelTest();
        test.all();
        System.out.println("ModelTest: " + (long) RUNS * CALLS + " answers, " + test.wrong + " not as the model's");
        if (test.wrong != 0) {
            System.exit(1);
        }
    }

    private void all() {
        for (run = 0; run < RUNS && wrong < 20; run++) {
            x = new ValuePlaces();
            model = new Model();
            calls = 0;
            while (calls < CALLS && wrong < 20) {
                step();
            }
        }
        for (int which = 0; which < given.length; which++) {
            if (given[which] == 0) {
                wrong++;
                System.out.println("call " + which + " was never done");
            }
        }
    }

    private int below(int n) {
        return random.nextInt(n);
    }

    private void step() {
        int die = below(100);
        if (die < 6) {
            sendText();
        } else if (die < 12) {
            sendDay();
        } else if (die < 16) {
            sendCopies();
        } else {
            sendAny();
        }
    }

    private void sendAny() {
        int which = below(PARAMETERS.length);
        int[] a = new int[PARAMETERS[which]];
        for (int p = 0; p < a.length; p++) {
            a[p] = number(which, p);
        }
        compare(which, a);
    }

    private int number(int which, int p) {
        if (below(40) == 0) {
            return ODD[below(ODD.length)];
        }
        boolean cells = which == 0 || which == 6 || which == 11;
        if (cells && p == 4) {
            return below(3) == 0 ? below(30) : 10 + below(8);
        }
        if (which == 10) {
            return p == 0 ? 3 + below(3) : below(2) == 0 ? below(3) : 10 + below(8);
        }
        if (which == 4) {
            return p == 0 ? below(3) : below(p == 1 ? 1000 : 3) == 0 ? -9 : below(8);
        }
        if (which == 1 && p == 1) {
            return below(9);
        }
        if (which == 19 && p == 2) {
            return below(3) == 0 ? random.nextInt() : below(9);
        }
        if (which == 12 && p == 1) {
            return below(4);
        }
        if (which == 3 && p == 1 || which == 2 && p == 1) {
            return below(2);
        }
        return below(below(3) == 0 ? 10 : 4);
    }

    private void fillSheet(int k, int lane, int[] row) {
        compare(17, new int[] {k, lane, row.length});
        for (int i = 0; i < row.length; i++) {
            compare(19, new int[] {k, i, row[i]});
        }
    }

    private void sendText() {
        StringBuilder text = new StringBuilder("r");
        int lines = 1 + below(8) + (below(30) == 0 ? 1 : 0);
        int[] over = new int[10];
        for (int l = 0; l < lines; l++) {
            text.append(';').append("pbd".charAt(below(3)));
            int above = l == 0 ? 0 : below(3) == 0 ? below(l) : l - 1;
            text.append(l == 0 ? '-' : (char) ('0' + above));
            over[l] = l == 0 ? 0 : over[above] | 1 << above;
            int uses = below(3);
            int seen = 0;
            for (int u = 0; u < uses && l > 0; u++) {
                int v = below(l);
                if ((over[l] >> v & 1) == 1 && (seen >> v & 1) == 0) {
                    seen |= 1 << v;
                    text.append((char) ('0' + v));
                }
            }
        }
        int faults = below(3) == 0 ? 1 : 0;
        for (int f = 0; f < faults; f++) {
            String codes = "rpbd;-01234567x8";
            char code = codes.charAt(below(codes.length()));
            int at = below(text.length());
            int how = below(3);
            if (how == 0) {
                text.setCharAt(at, code);
            } else if (how == 1) {
                text.insert(at, code);
            } else {
                text.deleteCharAt(at);
            }
        }
        int k = below(4);
        int lane = below(3);
        fillSheet(k, lane, Due.codes(text.toString()));
        compare(0, new int[] {k, lane, 0, text.length()});
    }

    private void sendDay() {
        int acts = below(4);
        int[] row = new int[3 * acts];
        for (int act = 0; act < acts; act++) {
            row[3 * act] = below(8);
            row[3 * act + 1] = below(8) == 0 ? below(5) - 1 : below(2);
            row[3 * act + 2] = below(10) == 0 ? -1 : below(below(2) == 0 ? 3 : 8);
        }
        int k = below(4);
        int lane = below(3);
        fillSheet(k, lane, row);
        for (int what : new int[] {0, 1, 2, 3, 4, 10 + below(8)}) {
            compare(6, new int[] {k, lane, 0, acts, what});
        }
    }

    private void sendCopies() {
        int n = below(9);
        int[] row = new int[n];
        for (int i = 0; i < n; i++) {
            row[i] = below(60) == 0 ? below(12) - 2 : below(n);
        }
        if (below(2) == 0) {
            for (int i = 0; i < n; i++) {
                row[i] = i;
            }
            for (int i = n - 1; i > 0; i--) {
                int j = below(i + 1);
                int had = row[i];
                row[i] = row[j];
                row[j] = had;
            }
        }
        int k = below(4);
        fillSheet(k, 2, row);
        for (int what = 8; what < 23; what++) {
            compare(11, new int[] {k, 2, 0, n, what < 10 ? what - 8 : what});
        }
    }

    private void compare(int which, int[] a) {
        if (calls == CALLS) {
            return;
        }
        calls++;
        long want = model.call(which, a);
        long got = Faces.call(x, which, a);
        if (want < 0) {
            refused[which]++;
        } else {
            given[which]++;
        }
        if (got != want) {
            wrong++;
            System.out.println("run " + run + ": " + Faces.NAMES[which] + java.util.Arrays.toString(a) + " answered " + got
                + ", the model " + want);
        }
    }
}
