import java.util.ArrayList;
import java.util.HashSet;
import java.util.List;
import java.util.Set;

/** Nothing by chance: all TEXTS of a few LINES, and all codes with which one goes on or doesn't. */
public final class EveryTextTest {
    /** All kinds of each LINE are told up to so many LINES; beyond, the LINES take turns. */
    private static final int MOST_LINES = 5, MOST_OF_ALL_KINDS = 3;
    /** A code behind so many is still looked at; TEXTS of four LINES have more. */
    private static final int MOST_CODES = 12;
    private static final String CODES = "rpbd;-0123456789x ";
    private static final Due due = new Due("EveryTextTest");

    public static void main(String[] args) {
        List<String> texts = new ArrayList<>();
        for (int lines = 1; lines <= MOST_LINES; lines++) {
            putOn("r", new int[lines], 0, lines, texts);
        }
        texts.forEach(EveryTextTest::answers);
        everyCode();
        System.out.println("EveryTextTest: " + texts.size() + " texts");
        due.end();
    }

    /** Puts the LINES from this one on behind a text, in every way. */
    private static void putOn(String text, int[] over, int line, int lines, List<String> texts) {
        if (line == lines) {
            texts.add(text);
            return;
        }
        int turn = (line + texts.size()) % 3;
        for (int kind = 0; kind < 3; kind++) {
            if (lines > MOST_OF_ALL_KINDS && kind != turn) {
                continue;
            }
            for (int above = line == 0 ? -1 : 0; above < line; above++) {
                over[line] = above < 0 ? 0 : over[above] | 1 << above;
                String head = text + ";" + "pbd".charAt(kind) + (above < 0 ? "-" : above);
                for (String uses : uses(over[line])) {
                    putOn(head + uses, over, line + 1, lines, texts);
                }
            }
        }
    }

    private static List<String> uses(int over) {
        List<String> uses = new ArrayList<>(List.of(""));
        for (int a = 0; a < 8; a++) {
            for (int b = 0; b < 8 && (over >> a & 1) == 1; b++) {
                if (b == a) {
                    uses.add("" + a);
                } else if ((over >> b & 1) == 1) {
                    uses.add("" + a + b);
                }
            }
        }
        return uses;
    }

    /** All that can be asked of the LINES, on the program and on the model. */
    private static void answers(String text) {
        ValuePlaces x = new ValuePlaces();
        Model model = new Model();
        Due.row(x, 0, 1, Due.codes(text));
        model.call(17, new int[] {0, 1, text.length()});
        for (int i = 0; i < text.length(); i++) {
            model.call(19, new int[] {0, i, text.charAt(i)});
        }
        alike(text, x, model, 0, 0, 1, 0, text.length());
        int lines = x.many(0);
        for (int l = 0; l < lines; l++) {
            for (int what = 0; what < 9; what++) {
                alike(text, x, model, 1, l, what);
            }
            for (int other = 0; other < lines; other++) {
                alike(text, x, model, 7, l, other);
                alike(text, x, model, 9, l, other);
            }
            for (int call : new int[] {14, 15, 22, 23}) {
                alike(text, x, model, call, l);
            }
            alike(text, x, model, 2, l, 0);
            alike(text, x, model, 2, l, 1);
        }
        for (int k = 3; k <= 4; k++) {
            for (int what = 0; what < 10 + lines; what += what == 2 ? 8 : 1) {
                alike(text, x, model, 10, k, what);
            }
        }
        for (int what = 0; what < 5; what++) {
            alike(text, x, model, 27, what);
            alike(text, x, model, 8, what);
            alike(text, x, model, 16, what);
        }
        alike(text, x, model, 25);
        neverMore(text, x);
    }

    private static void alike(String text, ValuePlaces x, Model model, int which, int... a) {
        due.is(text + ": " + Faces.NAMES[which] + java.util.Arrays.toString(a), Faces.call(x, which, a),
            model.call(which, a));
    }

    /** "Colours given from the top down, never more than values are live anywhere", and so many PLACES alone. */
    private static void neverMore(String text, ValuePlaces x) {
        due.is(text + ": more colours than are live anywhere", x.most(1) > x.most(0) ? 1 : 0, 0);
        for (int l = 0; l < x.many(0); l++) {
            due.is(text + ": over three are held behind " + l, Integer.bitCount(x.hold(3, 10 + l)) > 3 ? 1 : 0, 0);
        }
    }

    /** A code fits, if some TEXT begins with all codes up to it: here all TEXTS are written out to look. */
    private static void everyCode() {
        Set<String> texts = new HashSet<>();
        Set<String> beginnings = new HashSet<>();
        for (int lines = 1; lines <= 4; lines++) {
            List<String> all = new ArrayList<>();
            putOn("r", new int[lines], 0, lines, all);
            for (String text : all) {
                String plain = text.replaceAll("[bd]", "p");
                texts.add(plain);
                for (int n = 0; n <= plain.length(); n++) {
                    beginnings.add(plain.substring(0, n));
                }
            }
        }
        for (String beginning : beginnings) {
            if (beginning.length() < MOST_CODES) {
                for (char code : CODES.toCharArray()) {
                    goesOn(beginning, code, texts, beginnings);
                }
            }
        }
    }

    private static void goesOn(String beginning, char code, Set<String> texts, Set<String> beginnings) {
        String now = beginning + code;
        // Kinds fit in the same places, so the TEXTS written out have just one.
        String plain = beginning.endsWith(";") ? now.replaceAll("[bd]$", "p") : now;
        int lines = (int) now.chars().filter(c -> c == ';').count();
        ValuePlaces x = new ValuePlaces();
        if (texts.contains(plain)) {
            due.is(now, Due.read(x, now), lines);
        } else if (beginnings.contains(plain)) {
            due.is(now + " ends too soon", Due.read(x, now), -100 - now.length());
        } else {
            due.is(now, Due.read(x, now), -100 - beginning.length());
            due.is(now + " and more", Due.read(x, now + ";p0"), -100 - beginning.length());
        }
    }
}
