import java.util.ArrayList;
import java.util.HashSet;
import java.util.List;
import java.util.Set;
import java.util.TreeSet;

/**
 * The document's words done a second time, with lists, sets and texts and none of the program's code, so that
 * ModelTest can hold the two against each other.
 */
final class Model {
    private static final long LOST = Long.MIN_VALUE;

    private static final class Line {
        int number;
        int kind;
        Line above;
        final List<Line> uses = new ArrayList<>();

        boolean below(Line other) {
            return above != null && (above == other || above.below(other));
        }

        int downTo(Line lower) {
            return lower == this ? 0 : 1 + downTo(lower.above);
        }
    }

    private static final class Refusal extends RuntimeException {
        private static final long serialVersionUID = 1L;
        final int answer;
        final int fault;

        Refusal(int answer, int fault) {
            super(null, null, false, false);
            this.answer = answer;
            this.fault = fault;
        }
    }

    private interface Call {
        long run();
    }

    private List<Line> lines = new ArrayList<>();
    private final List<int[]> readings = new ArrayList<>();
    private final Object[] sheets = new Object[4];
    private int trace;
    private int fault;

    /** The call by its place in the document's face. */
    long call(int which, int[] a) {
        Set<Integer> naming = Set.of(0, 6, 11, 17, 19, 20, 21, 24);
        boolean longAnswer = which == 16 || which == 20;
        int came = 0;
        long answer;
        try {
            answer = choose(which, a).run();
        } catch (Refusal r) {
            answer = longAnswer ? LOST : r.answer;
            came = r.fault;
        }
        if (naming.contains(which)) {
            fault = came;
        }
        return answer;
    }

    private Call choose(int which, int[] a) {
        switch (which) {
            case 0: return () -> text(a[0], a[1], a[2], a[3]);
            case 1: return () -> ofLine(line(a[0]), a[1]);
            case 2: return () -> usedIn(line(a[0]), a[1]).number;
            case 3: return () -> reuse(a[0], a[1], a[2]);
            case 4: return () -> grow(a[0], a[1], a[2], a[3]);
            case 5: return () -> cut();
            case 6: return () -> day(a[0], a[1], a[2], a[3], a[4]);
            case 7: return () -> cross(a[0], a[1]);
            case 8: return () -> most(a[0]);
            case 9: return () -> next(a[0], a[1]);
            case 10: return () -> hold(a[0], a[1]);
            case 11: return () -> copies(a[0], a[1], a[2], a[3], a[4]);
            case 12: return () -> reading(a[0], a[1]);
            case 13: return () -> back(a[0]);
            case 14: return () -> kinds(a[0]);
            case 15: return () -> firsts(a[0]);
            case 16: return () -> odds(a[0]);
            case 17: return () -> sheet(a[0], a[1], a[2]);
            case 18: return () -> lose(a[0]);
            case 19: return () -> put(a[0], a[1], a[2]);
            case 20: return () -> cell(a[0], a[1], a[2]);
            case 21: return () -> copy(a[0], a[1], a[2], a[3], a[4]);
            case 22: return () -> tell(a[0]);
            case 23: return () -> label(a[0]);
            case 24: return () -> as(a[0], a[1]);
            case 25: return () -> trace;
            case 26: return () -> fault;
            default: return () -> many(a[0]);
        }
    }

    private static void refuse(boolean when, int answer) {
        if (when) {
            throw new Refusal(answer, 0);
        }
    }

    private static void fault(boolean when, int fault) {
        if (when) {
            throw new Refusal(-10 - fault, fault);
        }
    }

    private Line line(int l) {
        refuse(l < 0 || l >= lines.size(), -1);
        return lines.get(l);
    }

    private static Line usedIn(Line l, int i) {
        refuse(i < 0 || i >= l.uses.size(), -1);
        return l.uses.get(i);
    }

    private static int bits(Set<Line> set) {
        int bits = 0;
        for (Line l : set) {
            bits += 1 << l.number;
        }
        return bits;
    }

    // ---- texts

    private static boolean canGoOn(String prefix) {
        if (prefix.isEmpty()) {
            return true;
        }
        String[] parts = prefix.split(";", -1);
        if (!parts[0].equals("r") || parts.length > 9) {
            return false;
        }
        List<Line> told = new ArrayList<>();
        for (int p = 1; p < parts.length; p++) {
            boolean whole = p < parts.length - 1;
            if (whole ? parts[p].length() < 2 : parts[p].length() == 0) {
                return !whole;
            }
            if (!partFits(parts[p], told)) {
                return false;
            }
        }
        return true;
    }

    private static boolean isText(String text) {
        int last = text.lastIndexOf(';');
        return canGoOn(text) && last >= 0 && text.length() - last > 2;
    }

    private static boolean partFits(String part, List<Line> told) {
        if ("pbd".indexOf(part.charAt(0)) < 0 || part.length() > 4) {
            return false;
        }
        if (part.length() == 1) {
            return true;
        }
        Line l = new Line();
        l.number = told.size();
        l.kind = "pbd".indexOf(part.charAt(0));
        int above = part.charAt(1) - '0';
        if (told.isEmpty() ? part.charAt(1) != '-' : above < 0 || above >= told.size()) {
            return false;
        }
        l.above = told.isEmpty() ? null : told.get(above);
        for (int i = 2; i < part.length(); i++) {
            int v = part.charAt(i) - '0';
            if (v < 0 || v >= told.size() || !l.below(told.get(v)) || l.uses.contains(told.get(v))) {
                return false;
            }
            l.uses.add(told.get(v));
        }
        told.add(l);
        return true;
    }

    private static List<Line> linesOf(String text) {
        List<Line> told = new ArrayList<>();
        String[] parts = text.split(";");
        for (int p = 1; p < parts.length; p++) {
            partFits(parts[p], told);
        }
        return told;
    }

    private String textNow() {
        StringBuilder text = new StringBuilder("r");
        for (Line l : lines) {
            text.append(';').append("pbd".charAt(l.kind)).append(l.above == null ? "-" : "" + l.above.number);
            for (Line v : l.uses) {
                text.append(v.number);
            }
        }
        return text.toString();
    }

    private long text(int k, int lane, int i, int n) {
        int[] codes = cells(k, lane, i, n);
        StringBuilder text = new StringBuilder();
        for (int code : codes) {
            text.append(code > 0 && code < 128 ? (char) code : '?');
        }
        for (int place = 0; place < n; place++) {
            refuse(!canGoOn(text.substring(0, place + 1)), -100 - place);
        }
        refuse(!isText(text.toString()), -100 - n);
        lines = linesOf(text.toString());
        readings.clear();
        return lines.size();
    }

    // ---- what a tree has

    private static Set<Line> users(List<Line> all, Line v) {
        Set<Line> set = new HashSet<>(all);
        set.removeIf(l -> !l.uses.contains(v));
        return set;
    }

    private static Set<Line> live(List<Line> all, Line l) {
        Set<Line> set = new HashSet<>();
        for (Line v : all) {
            if (v == l || (l.below(v) && users(all, v).stream().anyMatch(u -> u.below(l)))) {
                set.add(v);
            }
        }
        return set;
    }

    private static boolean crosses(List<Line> all, Line a, Line b) {
        return a != b && all.stream().map(l -> live(all, l)).anyMatch(s -> s.contains(a) && s.contains(b));
    }

    private static int colour(List<Line> all, Line v) {
        Set<Integer> taken = new TreeSet<>();
        for (Line other : live(all, v)) {
            if (other != v) {
                taken.add(colour(all, other));
            }
        }
        int c = 0;
        while (taken.contains(c)) {
            c++;
        }
        return c;
    }

    private static int cost(List<Line> all, Line v) {
        int plain = users(all, v).size();
        return v.kind == 0 ? plain : v.kind == 1 ? plain + 1 : plain * 2;
    }

    private static int pressure(List<Line> all) {
        return all.stream().mapToInt(l -> live(all, l).size()).max().orElse(0);
    }

    private static int colours(List<Line> all) {
        return (int) all.stream().map(l -> colour(all, l)).distinct().count();
    }

    private static int twos(List<Line> all) {
        int twos = 0;
        for (Line a : all) {
            for (Line b : all) {
                if (a.number < b.number && crosses(all, a, b)) {
                    twos++;
                }
            }
        }
        return twos;
    }

    private long ofLine(Line l, int what) {
        refuse(what < 0 || what > 8, -2);
        Set<Line> crossing = new HashSet<>(lines);
        crossing.removeIf(v -> !crosses(lines, l, v));
        int[] all = {l.kind, l.above == null ? 8 : l.above.number, l.uses.size(), bits(live(lines, l)),
            live(lines, l).size(), colour(lines, l), bits(crossing), bits(users(lines, l)), cost(lines, l)};
        return all[what];
    }

    private long reuse(int l, int i, int v) {
        Line of = line(l);
        Line was = usedIn(of, i);
        Line becomes = line(v);
        refuse(!fits(of, i, becomes), -3);
        of.uses.set(i, becomes);
        return was.number;
    }

    private static boolean fits(Line l, int i, Line v) {
        return l.below(v) && (l.uses.size() < 2 || l.uses.get(1 - i) != v);
    }

    // ---- what changes

    private long grow(int kind, int above, int a, int b) {
        refuse(kind < 0 || kind > 2, -2);
        Line l = new Line();
        l.above = line(above);
        l.kind = kind;
        l.number = lines.size();
        Line first = a == -9 ? null : line(a);
        Line second = b == -9 ? null : line(b);
        refuse(first == null && second != null, -1);
        refuse(first != null && !l.below(first), -3);
        refuse(second != null && (!l.below(second) || first == second), -3);
        refuse(lines.size() == 8, -4);
        if (first != null) {
            l.uses.add(first);
        }
        if (second != null) {
            l.uses.add(second);
        }
        lines.add(l);
        return l.number;
    }

    private long cut() {
        refuse(lines.size() < 2, -3);
        Line last = lines.remove(lines.size() - 1);
        readings.removeIf(r -> r[0] == last.number);
        return lines.size();
    }

    private long day(int k, int lane, int i, int n, int what) {
        refuse(k < 0 || k > 3, -1);
        refuse(lane < 0 || lane > 2 || n < 0 || n > 20 || what < 0 || what > 17 || (what > 4 && what < 10), -2);
        int[] acts = cells(k, lane, i, 3 * n);
        refuse(lines.isEmpty(), -3);
        List<Line> then = linesOf(textNow());
        int wrong = -9;
        for (int act = 0; act < n && wrong == -9; act++) {
            if (!doAct(then, acts[3 * act], acts[3 * act + 1], acts[3 * act + 2])) {
                wrong = act;
            }
        }
        if (what == 1) {
            return wrong;
        }
        refuse(wrong != -9, -100 - wrong);
        switch (what) {
            case 0: return pressure(then);
            case 2: return colours(then);
            case 3: return holding(then, 3)[0];
            case 4: return twos(then);
            default: return what - 10 < then.size() ? colour(then, then.get(what - 10)) : -9;
        }
    }

    private static boolean doAct(List<Line> all, int l, int i, int v) {
        if (l < 0 || l >= all.size() || i < 0 || i >= all.get(l).uses.size() || v < 0 || v >= all.size()
            || !fits(all.get(l), i, all.get(v))) {
            return false;
        }
        all.get(l).uses.set(i, all.get(v));
        return true;
    }

    // ---- places

    private long cross(int a, int b) {
        Line one = line(a);
        Line other = line(b);
        refuse(a == b, -1);
        return crosses(lines, one, other) ? 1 : 0;
    }

    private long most(int what) {
        refuse(what < 0 || what > 2, -2);
        refuse(lines.isEmpty(), -3);
        return what == 0 ? pressure(lines) : what == 1 ? colours(lines) : twos(lines);
    }

    private static int later(List<Line> all, Line v, Line from) {
        return users(all, v).stream().filter(u -> u.below(from)).mapToInt(from::downTo).min().orElse(Integer.MAX_VALUE);
    }

    private long next(int v, int l) {
        Line of = line(v);
        Line from = line(l);
        refuse(!from.below(of), -3);
        if (from.uses.contains(of)) {
            return 0;
        }
        int later = later(lines, of, from);
        return later == Integer.MAX_VALUE ? -9 : later;
    }

    /** SPILLED, how many FETCHED, how many DROPPED, then HELD behind each LINE. */
    private static int[] holding(List<Line> all, int k) {
        int[] answer = new int[11];
        Set<Line> spilled = new HashSet<>();
        List<Set<Line>> behind = new ArrayList<>();
        for (Line l : all) {
            Set<Line> held = new HashSet<>();
            if (l.above != null) {
                held.addAll(behind.get(l.above.number));
            }
            for (Line v : l.uses) {
                if (held.contains(v)) {
                    continue;
                }
                if (held.size() == k) {
                    Set<Line> those = new HashSet<>(held);
                    those.removeAll(l.uses);
                    drop(all, l, held, those, spilled);
                    answer[2]++;
                }
                held.add(v);
                answer[1]++;
            }
            held.removeIf(v -> later(all, v, l) == Integer.MAX_VALUE);
            if (held.size() == k) {
                drop(all, l, held, held, spilled);
                answer[2]++;
            }
            held.add(l);
            behind.add(held);
            answer[3 + l.number] = bits(held);
        }
        answer[0] = bits(spilled);
        return answer;
    }

    private static void drop(List<Line> all, Line l, Set<Line> held, Set<Line> those, Set<Line> spilled) {
        List<Line> order = new ArrayList<>(those);
        order.sort((a, b) -> later(all, a, l) != later(all, b, l)
            ? Integer.compare(later(all, b, l), later(all, a, l)) : Integer.compare(b.number, a.number));
        Line dropped = order.get(0);
        held.remove(dropped);
        if (later(all, dropped, l) != Integer.MAX_VALUE) {
            spilled.add(dropped);
        }
    }

    private long hold(int k, int what) {
        refuse(k < 3 || k > 8 || what < 0 || what > 17 || (what > 2 && what < 10), -2);
        refuse(lines.isEmpty(), -3);
        if (what >= 10) {
            return what - 10 < lines.size() ? holding(lines, k)[3 + what - 10] : -9;
        }
        return holding(lines, k)[what];
    }

    private long copies(int k, int lane, int i, int n, int what) {
        refuse(k < 0 || k > 3, -1);
        refuse(lane < 0 || lane > 2 || n < 0 || n > 8 || what < 0 || what > 29 || (what > 1 && what < 10), -2);
        int[] row = cells(k, lane, i, n);
        for (int from : row) {
            refuse(from < 0 || from >= n, -2);
        }
        List<Integer> moves = new ArrayList<>();
        Set<Integer> open = new TreeSet<>();
        for (int p = 0; p < n; p++) {
            if (row[p] != p) {
                open.add(p);
            }
        }
        int spare = 0;
        while (!open.isEmpty()) {
            int free = open.stream().filter(p -> open.stream().noneMatch(q -> row[q] == p)).findFirst().orElse(-1);
            if (free >= 0) {
                moves.add(10 * free + row[free]);
                open.remove(free);
            } else {
                int least = open.iterator().next();
                moves.add(10 * n + least);
                spare++;
                open.forEach(q -> row[q] = row[q] == least ? n : row[q]);
            }
        }
        if (what < 2) {
            return what == 0 ? moves.size() : spare;
        }
        return what - 10 < moves.size() ? moves.get(what - 10) : -9;
    }

    // ---- what it costs

    private long reading(int v, int c) {
        line(v);
        refuse(c < 0 || c > 20, -2);
        refuse(readings.size() == 8, -4);
        readings.add(new int[] {v, c});
        return readings.size() - 1;
    }

    private long back(int n) {
        refuse(n < 0 || n > readings.size(), -2);
        readings.subList(readings.size() - n, readings.size()).clear();
        return readings.size();
    }

    private boolean allSo(List<Line> all) {
        return readings.stream().allMatch(r -> cost(all, all.get(r[0])) == r[1]);
    }

    private long kinds(int v) {
        line(v);
        int set = 0;
        for (int kind = 0; kind < 3; kind++) {
            List<Line> then = linesOf(textNow());
            then.get(v).kind = kind;
            set += allSo(then) ? 1 << kind : 0;
        }
        return set;
    }

    private long firsts(int l) {
        refuse(line(l).uses.isEmpty(), -3);
        int set = 0;
        for (int v = 0; v < lines.size(); v++) {
            List<Line> then = linesOf(textNow());
            set += doAct(then, l, 0, v) && allSo(then) ? 1 << v : 0;
        }
        return set;
    }

    private long odds(int which) {
        refuse(which < 0 || which > 1, -2);
        int n = lines.size();
        refuse(n < 2, -3);
        java.math.BigInteger up = java.math.BigInteger.valueOf(twos(lines));
        java.math.BigInteger low = java.math.BigInteger.valueOf(n * (n - 1) / 2);
        return (which == 0 ? up : low).divide(up.gcd(low)).longValue();
    }

    // ---- sheets, parts

    private static int length(Object row) {
        return java.lang.reflect.Array.getLength(row);
    }

    private static int laneOf(Object row) {
        return row instanceof byte[] ? 0 : row instanceof short[] ? 1 : 2;
    }

    private static int at(Object row, int i) {
        return java.lang.reflect.Array.getInt(row, i);
    }

    private static void set(Object row, int i, int v) {
        if (row instanceof byte[] bytes) {
            bytes[i] = (byte) v;
        } else if (row instanceof short[] shorts) {
            shorts[i] = (short) v;
        } else {
            ((int[]) row)[i] = v;
        }
    }

    private Object sheet(int k) {
        refuse(k < 0 || k > 3, -1);
        return sheets[k];
    }

    private int[] cells(int k, int lane, int i, int n) {
        Object row = sheet(k);
        refuse(lane < 0 || lane > 2, -2);
        fault(row != null && laneOf(row) != lane, 2);
        fault(row == null, 1);
        fault(n < 0, 4);
        fault(i < 0 || (long) i + n > length(row), 3);
        int[] cells = new int[n];
        for (int c = 0; c < n; c++) {
            cells[c] = at(row, i + c);
        }
        return cells;
    }

    private long sheet(int k, int lane, int n) {
        sheet(k);
        refuse(lane < 0 || lane > 2 || n > 60, -2);
        fault(n < 0, 4);
        sheets[k] = lane == 0 ? new byte[n] : lane == 1 ? new short[n] : new int[n];
        return 1;
    }

    private long lose(int k) {
        boolean had = sheet(k) != null;
        sheets[k] = null;
        return had ? 1 : 0;
    }

    private long put(int k, int i, int v) {
        Object row = sheet(k);
        fault(row == null, 1);
        fault(i < 0 || i >= length(row), 3);
        set(row, i, v);
        return 1;
    }

    private long cell(int k, int i, int lane) {
        return cells(k, lane, i, 1)[0];
    }

    private long copy(int k, int i, int other, int j, int n) {
        Object from = sheet(k);
        Object to = sheet(other);
        fault(from == null || to == null, 1);
        fault(laneOf(from) != laneOf(to), 2);
        fault(i < 0 || j < 0 || n < 0 || (long) i + n > length(from) || (long) j + n > length(to), 3);
        int[] were = cells(k, laneOf(from), i, n);
        for (int c = 0; c < n; c++) {
            set(to, j + c, were[c]);
        }
        return n;
    }

    private long tell(int v) {
        Line l = line(v);
        int[][] bodies = {{1}, {2, 1}, {3, 2, 1, 1}};
        for (int body : bodies[l.kind]) {
            trace = 31 * trace + body;
        }
        int plain = users(lines, l).size();
        return l.kind == 0 ? plain : l.kind == 1 ? plain + 100 : plain + 100 + plain;
    }

    private long label(int v) {
        Line l = line(v);
        trace = 31 * trace + (l.kind == 2 ? 5 : 4);
        return l.kind == 2 ? 90 : v;
    }

    private long as(int v, int kind) {
        Line l = line(v);
        refuse(kind < 0 || kind > 2, -2);
        fault(l.kind < kind, 2);
        return 1;
    }

    private long many(int what) {
        refuse(what < 0 || what > 4, -2);
        int used = lines.stream().mapToInt(l -> l.uses.size()).sum();
        return new int[] {lines.size(), used, pressure(lines), colours(lines), readings.size()}[what];
    }
}
