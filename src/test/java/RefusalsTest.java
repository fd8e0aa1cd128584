import java.util.ArrayList;
import java.util.Arrays;
import java.util.List;
import java.util.function.Supplier;

/**
 * Of refusals and FAULTS that hold at once the first told is answered, and nothing is changed by it.
 *
 * For each call, arguments with which it is done, and for each of them others with which it is not, in the order of
 * the call's line. All that can be made of these is asked. Where a call is not done, an object that was asked and one
 * that was not must show the same from then on.
 */
public final class RefusalsTest {
    private static final int UNKNOWN = ValuePlaces.UNKNOWN, OUTSIDE = ValuePlaces.OUTSIDE;
    private static final int STATE = ValuePlaces.STATE, FULL = ValuePlaces.FULL, NONE = ValuePlaces.NONE;
    private static final int LEAST = Due.LEAST, GREATEST = Due.GREATEST;
    private static final int NULL = 1, CAST = 2, INDEX = 3, SIZE = 4;

    /** A chain of seven in which 5 USES 4 and 3, and a LINE in another branch. */
    private static final String TREE = "r;p-;b00;d110;p2;p3;p443;p0";
    private static final int[] TEXT = Due.codes("r;p-;b0");
    private static final int[] NO_TEXT = Due.codes("r;p-;x0");

    private static final Due due = new Due("RefusalsTest");

    /** Another number for an argument, which makes the call answer otherwise. */
    private record Other(int place, int value, int order, long answer, int fault) {
    }

    /** A call, what it is asked of, and all that can keep it from being done. */
    private static final class Asked {
        final int which;
        final Supplier<ValuePlaces> made;
        final int[] arguments;
        final long answer;
        final List<Other> others = new ArrayList<>();
        int order;
        boolean isDone = true;

        Asked(String name, Supplier<ValuePlaces> made, long answer, int... arguments) {
            this.which = Arrays.asList(Faces.NAMES).indexOf(name);
            this.made = made;
            this.answer = answer;
            this.arguments = arguments;
        }

        /** What is told next in the call's line. */
        Asked then() {
            order++;
            return this;
        }

        Asked refused(long answer, int place, int... values) {
            for (int value : values) {
                others.add(new Other(place, value, order, answer, 0));
            }
            return this;
        }

        Asked fails(int fault, int place, int... values) {
            for (int value : values) {
                others.add(new Other(place, value, order, -10 - fault, fault));
            }
            return this;
        }

        /** With none of the others it is not done either. */
        Asked isRefusedAnyway() {
            isDone = false;
            return this;
        }
    }

    public static void main(String[] args) {
        due.says(0, "REFUSALS, in the order in which a call's line tells them: UNKNOWN (there is no such LINE, USED one, "
            + "SHEET, place of a row), OUTSIDE (another number is not as told), STATE (as told), FULL; they change nothing "
            + "(but fault(), of a call that names FAULTS).");
        onLines();
        onChanges();
        onPlaces();
        onCosts();
        due.says(0, "FAULTS are the machine's: 1 NULL (there is nothing), 2 CAST (it is of another lane, kind), 3 INDEX (of "
            + "cells from i on also where i is not 0 .. how many there are, if none of them is taken, too), 4 SIZE (a length "
            + "below 0). Of a call the first that is come to, in the order told; it answers -10 less it (LOST, where a long is "
            + "answered, as for refusals) and changes nothing; fault() tells it.");
        onCells();
        onSheets();
        due.says(0, "NONE is -9.");
        due.is("NONE", ValuePlaces.NONE, -9);
        due.says(0, "Sets are told as bits (bit k for number k).");
        sets();
        askingChangesNothing();
        due.end();
    }

    // ---- the objects that are asked

    /** Sheet 0 has a row of bytes, 1 one of shorts, 2 nothing, 3 another row of bytes; the latest FAULT is one told. */
    private static ValuePlaces with(String text, int[] good, int[] bad, int fault) {
        ValuePlaces x = text == null ? new ValuePlaces() : Due.of(text);
        Due.row(x, 0, 0, good);
        Due.row(x, 1, 1, bad);
        Due.row(x, 3, 0, bad);
        if (text != null) {
            x.reading(1, 2);
            x.reading(0, 2);
            x.label(0);
        }
        if (fault == SIZE) {
            x.sheet(0, 0, -1);
        } else {
            x.put(2, 0, 0);
        }
        return x;
    }

    private static Supplier<ValuePlaces> tree(int fault) {
        return () -> with(TREE, TEXT, NO_TEXT, fault);
    }

    private static Supplier<ValuePlaces> empty(int fault) {
        return () -> with(null, TEXT, NO_TEXT, fault);
    }

    // ---- the calls

    private static void onLines() {
        for (int fault : new int[] {NULL, SIZE}) {
            ask(new Asked("ofLine", tree(fault), 4, 5, 1)
                .refused(UNKNOWN, 0, LEAST, -1, 7, GREATEST).then().refused(OUTSIDE, 1, LEAST, -1, 9, GREATEST));
            ask(new Asked("used", tree(fault), 4, 5, 0)
                .refused(UNKNOWN, 0, LEAST, -1, 7, GREATEST, 3).refused(UNKNOWN, 1, LEAST, -1, 2, GREATEST));
            ask(new Asked("reuse", tree(fault), 4, 5, 0, 1)
                .refused(UNKNOWN, 0, LEAST, -1, 7, GREATEST, 3).refused(UNKNOWN, 1, LEAST, -1, 2, GREATEST)
                .refused(UNKNOWN, 2, LEAST, NONE, -1, 7, GREATEST).then().refused(STATE, 2, 5, 6, 3));
        }
    }

    private static void onChanges() {
        String eight = TREE + ";p6";
        for (int fault : new int[] {NULL, SIZE}) {
            askGrow(new Asked("grow", tree(fault), 7, 2, 5, 4, 2));
            askGrow(new Asked("grow", () -> with(eight, TEXT, NO_TEXT, fault), FULL, 2, 5, 4, 2).isRefusedAnyway());
            ask(new Asked("cut", tree(fault), 6));
            ask(new Asked("cut", () -> with("r;p-", TEXT, NO_TEXT, fault), STATE).isRefusedAnyway());
            ask(new Asked("cut", empty(fault), STATE).isRefusedAnyway());
        }
    }

    private static void askGrow(Asked grow) {
        int beyond = grow.isDone ? 7 : 8;
        ask(grow.refused(OUTSIDE, 0, LEAST, -1, 3, GREATEST).then()
            .refused(UNKNOWN, 1, LEAST, NONE, -1, beyond, GREATEST)
            .refused(UNKNOWN, 2, LEAST, NONE, -1, beyond, GREATEST)
            .refused(UNKNOWN, 3, LEAST, -1, beyond, GREATEST).then()
            .refused(STATE, 2, 6).refused(STATE, 3, 6, 4));
    }

    private static void onPlaces() {
        for (int fault : new int[] {NULL, SIZE}) {
            ask(new Asked("cross", tree(fault), 1, 3, 4)
                .refused(UNKNOWN, 0, LEAST, -1, 7, GREATEST, 4).refused(UNKNOWN, 1, LEAST, -1, 7, GREATEST));
            ask(new Asked("most", tree(fault), 2, 0).refused(OUTSIDE, 0, LEAST, -1, 3, GREATEST));
            ask(new Asked("most", empty(fault), STATE, 0).refused(OUTSIDE, 0, LEAST, -1, 3, GREATEST).then()
                .isRefusedAnyway());
            ask(new Asked("next", tree(fault), 1, 3, 4)
                .refused(UNKNOWN, 0, LEAST, -1, 7, GREATEST).refused(UNKNOWN, 1, LEAST, -1, 7, GREATEST).then()
                .refused(STATE, 1, 3, 2, 0, 6));
            ask(new Asked("hold", tree(fault), 0, 3, 0)
                .refused(OUTSIDE, 0, LEAST, 2, 9, GREATEST).refused(OUTSIDE, 1, LEAST, -1, 3, 9, 18, GREATEST));
            ask(new Asked("hold", empty(fault), STATE, 3, 0)
                .refused(OUTSIDE, 0, LEAST, 2, 9, GREATEST).refused(OUTSIDE, 1, LEAST, -1, 3, 9, 18, GREATEST).then()
                .isRefusedAnyway());
        }
    }

    private static void onCosts() {
        Supplier<ValuePlaces> full = () -> {
            ValuePlaces x = with(TREE, TEXT, NO_TEXT, SIZE);
            for (int n = 2; n < 8; n++) {
                x.reading(n - 2, n);
            }
            return x;
        };
        ask(new Asked("reading", tree(SIZE), 2, 6, 20)
            .refused(UNKNOWN, 0, LEAST, -1, 7, GREATEST).then().refused(OUTSIDE, 1, LEAST, -1, 21, GREATEST));
        ask(new Asked("reading", full, FULL, 6, 20)
            .refused(UNKNOWN, 0, LEAST, -1, 7, GREATEST).then().refused(OUTSIDE, 1, LEAST, -1, 21, GREATEST).then()
            .isRefusedAnyway());
        ask(new Asked("back", tree(SIZE), 0, 2).refused(OUTSIDE, 0, LEAST, -1, 3, GREATEST));
        ask(new Asked("back", full, 0, 8).refused(OUTSIDE, 0, LEAST, -1, 9, GREATEST));
        ask(new Asked("kinds", tree(SIZE), 1, 0).refused(UNKNOWN, 0, LEAST, -1, 7, GREATEST));
        ask(new Asked("firsts", tree(SIZE), 1, 1).refused(UNKNOWN, 0, LEAST, -1, 7, GREATEST).then().refused(STATE, 0, 0, 3));
        long lost = ValuePlaces.LOST;
        ask(new Asked("odds", tree(SIZE), 2, 0).refused(lost, 0, LEAST, -1, 2, GREATEST));
        ask(new Asked("odds", empty(SIZE), lost, 0).refused(lost, 0, LEAST, -1, 2, GREATEST).isRefusedAnyway());
        ask(new Asked("many", tree(SIZE), 7, 0).refused(OUTSIDE, 0, LEAST, -1, 5, GREATEST));
        ask(new Asked("tell", tree(SIZE), 2, 0).refused(UNKNOWN, 0, LEAST, -1, 7, GREATEST));
        ask(new Asked("label", tree(SIZE), 0, 0).refused(UNKNOWN, 0, LEAST, -1, 7, GREATEST));
        ask(new Asked("lose", tree(SIZE), 1, 0).refused(UNKNOWN, 0, LEAST, -1, 4, GREATEST));
    }

    private static void onCells() {
        int[] act = {5, 0, 1};
        int[] noAct = {5, 0, 3};
        int[] swap = {1, 0, 2};
        int[] noCopies = {1, 0, 3};
        for (int fault : new int[] {NULL, SIZE}) {
            ask(new Asked("lines", tree(fault), 2, 0, 0, 0, 7)
                .refused(UNKNOWN, 0, LEAST, -1, 4, GREATEST).then().refused(OUTSIDE, 1, LEAST, -1, 3, GREATEST).then()
                .fails(CAST, 0, 1).then().fails(NULL, 0, 2).then().fails(SIZE, 3, LEAST, -1).then()
                .fails(INDEX, 2, LEAST, -1, 8, GREATEST).fails(INDEX, 3, 8, GREATEST).then().refused(-105, 0, 3));
            askDay(new Asked("day", () -> with(TREE, act, noAct, fault), 3, 0, 0, 0, 1, 0), -100);
            askDay(new Asked("day", () -> with(null, act, noAct, fault), STATE, 0, 0, 0, 1, 0).isRefusedAnyway(), STATE);
            ask(new Asked("copies", () -> with(TREE, swap, noCopies, fault), 3, 0, 0, 0, 3, 0)
                .refused(UNKNOWN, 0, LEAST, -1, 4, GREATEST).then()
                .refused(OUTSIDE, 1, LEAST, -1, 3, GREATEST).refused(OUTSIDE, 3, LEAST, -1, 9, GREATEST)
                .refused(OUTSIDE, 4, LEAST, -1, 2, 9, 30, GREATEST).then()
                .fails(CAST, 0, 1).then().fails(NULL, 0, 2).then().fails(INDEX, 2, LEAST, -1, 4, GREATEST)
                .fails(INDEX, 3, 4, 8).then().refused(OUTSIDE, 0, 3));
        }
    }

    /** Sheet 3 has an act that can't be; without LINES that does not count. */
    private static void askDay(Asked day, long ofSheet3) {
        ask(day.refused(UNKNOWN, 0, LEAST, -1, 4, GREATEST).then()
            .refused(OUTSIDE, 1, LEAST, -1, 3, GREATEST).refused(OUTSIDE, 3, LEAST, -1, 21, GREATEST)
            .refused(OUTSIDE, 4, LEAST, -1, 5, 9, 18, GREATEST).then()
            .fails(CAST, 0, 1).then().fails(NULL, 0, 2).then().fails(INDEX, 2, LEAST, -1, 4, GREATEST)
            .fails(INDEX, 3, 2, 20).then().refused(ofSheet3, 0, 3));
    }

    private static void onSheets() {
        long lost = ValuePlaces.LOST;
        for (int fault : new int[] {NULL, SIZE}) {
            ask(new Asked("sheet", tree(fault), 1, 0, 1, 60)
                .refused(UNKNOWN, 0, LEAST, -1, 4, GREATEST).then()
                .refused(OUTSIDE, 1, LEAST, -1, 3, GREATEST).refused(OUTSIDE, 2, 61, GREATEST).then()
                .fails(SIZE, 2, LEAST, -1));
            ask(new Asked("put", tree(fault), 1, 0, 6, 5)
                .refused(UNKNOWN, 0, LEAST, -1, 4, GREATEST).then().fails(NULL, 0, 2).then()
                .fails(INDEX, 1, LEAST, -1, 7, GREATEST));
            Asked cell = new Asked("cell", tree(fault), 114, 0, 0, 0)
                .refused(lost, 0, LEAST, -1, 4, GREATEST).then().refused(lost, 2, LEAST, -1, 3, GREATEST).then();
            cell.others.add(new Other(0, 1, 2, lost, CAST));
            cell.others.add(new Other(0, 2, 3, lost, NULL));
            for (int i : new int[] {LEAST, -1, 7, GREATEST}) {
                cell.others.add(new Other(1, i, 4, lost, INDEX));
            }
            ask(cell);
            ask(new Asked("copy", tree(fault), 2, 0, 0, 3, 0, 2)
                .refused(UNKNOWN, 0, LEAST, -1, 4, GREATEST).refused(UNKNOWN, 2, LEAST, -1, 4, GREATEST).then()
                .fails(NULL, 0, 2).fails(NULL, 2, 2).then().fails(CAST, 2, 1).then()
                .fails(INDEX, 1, LEAST, -1, 6, GREATEST).fails(INDEX, 3, LEAST, -1, 6, GREATEST)
                .fails(INDEX, 4, LEAST, -1, 8, GREATEST));
            ask(new Asked("as", tree(fault), 1, 0, 0)
                .refused(UNKNOWN, 0, LEAST, -1, 7, GREATEST).then().refused(OUTSIDE, 1, LEAST, -1, 3, GREATEST).then()
                .fails(CAST, 1, 1, 2));
        }
    }

    // ---- what is due

    private static void ask(Asked asked) {
        askAll(asked, 0, asked.arguments.clone(), null);
    }

    /** From this argument on, each other number of it, and the one with which the call is done. */
    private static void askAll(Asked asked, int place, int[] arguments, Other first) {
        if (place == asked.arguments.length) {
            askOne(asked, arguments, first);
            return;
        }
        askAll(asked, place + 1, arguments, first);
        for (Other other : asked.others) {
            if (other.place == place) {
                int[] with = arguments.clone();
                with[place] = other.value;
                askAll(asked, place + 1, with, first == null || other.order < first.order ? other : first);
            }
        }
    }

    private static void askOne(Asked asked, int[] arguments, Other first) {
        ValuePlaces x = asked.made.get();
        String call = Faces.NAMES[asked.which] + Arrays.toString(arguments);
        int before = x.fault();
        due.is(call, Faces.call(x, asked.which, padded(arguments)), first == null ? asked.answer : first.answer);
        int fault = !namesFaults(asked.which) ? before : first == null ? 0 : first.fault;
        due.is("fault() behind " + call, x.fault(), fault);
        boolean isDone = first == null && asked.isDone;
        if (!isDone) {
            for (int view = 0; view < 4; view++) {
                ValuePlaces y = asked.made.get();
                Faces.call(y, asked.which, padded(arguments));
                sameView(call, view, y, asked.made.get());
            }
        }
    }

    private static int[] padded(int[] arguments) {
        return Arrays.copyOf(arguments, 5);
    }

    private static boolean namesFaults(int which) {
        return List.of("lines", "day", "copies", "sheet", "put", "cell", "copy", "as").contains(Faces.NAMES[which]);
    }

    private static void sameView(String call, int view, ValuePlaces asked, ValuePlaces other) {
        List<Long> got = view(view, asked);
        List<Long> want = view(view, other);
        due.is("view " + view + " is as long behind " + call, got.size(), want.size());
        for (int n = 0; n < Math.min(got.size(), want.size()); n++) {
            if (!got.get(n).equals(want.get(n))) {
                due.is("answer " + n + " of view " + view + " behind " + call, got.get(n), want.get(n));
                return;
            }
        }
    }

    // ---- what calls show; each view with what made the object stays below 512 calls

    private static List<Long> view(int view, ValuePlaces x) {
        List<Long> all = new ArrayList<>();
        switch (view) {
            case 0: viewOfLines(x, all); break;
            case 1: viewOfPlaces(x, all); break;
            case 2: viewOfSheets(x, all); break;
            default: whatFollows(x, all); break;
        }
        return all;
    }

    private static void show(List<Long> all, long answer) {
        all.add(answer);
    }

    private static void viewOfLines(ValuePlaces x, List<Long> all) {
        show(all, x.trace());
        for (int what = 0; what < 5; what++) {
            show(all, x.many(what));
        }
        for (int l = 0; l < 9; l++) {
            for (int what = 0; what < 9; what++) {
                show(all, x.ofLine(l, what));
            }
            show(all, x.used(l, 0));
            show(all, x.used(l, 1));
            for (int v = 0; v < 8; v++) {
                show(all, x.next(v, l));
                show(all, x.cross(v, l));
            }
        }
        for (int l = 0; l < 9; l++) {
            show(all, x.firsts(l));
            show(all, x.kinds(l));
        }
    }

    private static void viewOfPlaces(ValuePlaces x, List<Long> all) {
        for (int k = 3; k <= 8; k++) {
            for (int what = 0; what < 18; what++) {
                show(all, x.hold(k, what));
            }
        }
        for (int what = 0; what < 3; what++) {
            show(all, x.most(what));
            show(all, x.odds(what));
        }
        for (int v = 0; v < 9; v++) {
            for (int kind = 0; kind < 3; kind++) {
                show(all, x.as(v, kind));
            }
        }
    }

    private static void viewOfSheets(ValuePlaces x, List<Long> all) {
        for (int k = 0; k < 4; k++) {
            for (int lane = 0; lane < 3; lane++) {
                for (int i = 0; i < 9; i++) {
                    show(all, x.cell(k, i, lane));
                    show(all, x.fault());
                }
                for (int what = 0; what < 5; what++) {
                    show(all, x.day(k, lane, 0, 1, what));
                    show(all, x.copies(k, lane, 0, 3, what < 2 ? what : 8 + what));
                }
            }
            show(all, x.lose(k));
        }
    }

    private static void whatFollows(ValuePlaces x, List<Long> all) {
        for (int v = 0; v < 9; v++) {
            show(all, x.tell(v));
            show(all, x.label(v));
            show(all, x.trace());
        }
        show(all, x.back(2));
        for (int n = 0; n < 10; n++) {
            show(all, x.reading(n % 4, 1));
        }
        show(all, x.back(7));
        show(all, x.kinds(0));
        for (int n = 0; n < 3; n++) {
            show(all, x.cut());
            show(all, x.many(4));
        }
        for (int n = 0; n < 6; n++) {
            int last = x.many(0) - 1;
            show(all, x.grow(n % 3, last, last, n % 2 == 0 ? 0 : NONE));
            show(all, x.many(1));
        }
        for (int l = 0; l < 9; l++) {
            show(all, x.reuse(l, 0, l - 2));
            show(all, x.ofLine(l, 3));
        }
        show(all, x.copy(0, 0, 3, 1, 2));
        show(all, x.copy(0, 0, 0, 1, 2));
        show(all, x.lines(0, 0, 0, 7));
        show(all, x.lines(3, 0, 0, 7));
        show(all, x.many(0));
        show(all, x.put(1, 0, 70000));
        show(all, x.cell(1, 0, 1));
    }

    // ----

    private static void sets() {
        // 7 is USED by none; each other one by the last LINE alone.
        for (int v = 0; v < 7; v++) {
            ValuePlaces x = Due.of("r;p-;p0;p1;p2;p3;p4;p5;p6" + v);
            due.is("LINES that USE " + v, x.ofLine(v, 7), 128);
            due.is("LIVE behind 6", x.ofLine(6, 3), v == 6 ? 64 : 64 + (1 << v));
            due.is("HELD behind 6", x.hold(8, 16), v == 6 ? 64 : 64 + (1 << v));
            due.is("VALUES that cross 6", x.ofLine(6, 6), v == 6 ? 0 : 1 << v);
            x.reading(v, 1);
            due.is("FIRSTS of 7", x.firsts(7), 1 << v);
        }
    }

    /** Calls that ask, done as they should be, change nothing either. */
    private static void askingChangesNothing() {
        Supplier<ValuePlaces> made = () -> with(TREE, new int[] {1, 0, 2}, new int[] {5, 0, 1}, SIZE);
        int[][] calls = {{1, 5, 3}, {1, 5, 5}, {1, 5, 6}, {2, 5, 1}, {6, 3, 0, 0, 1, 0}, {6, 3, 0, 0, 1, 3}, {6, 3, 0, 0, 1, 12},
            {7, 0, 1}, {8, 0}, {8, 1}, {8, 2}, {9, 0, 1}, {10, 3, 0}, {10, 8, 12}, {11, 0, 0, 0, 3, 0}, {11, 0, 0, 0, 3, 10},
            {14, 0}, {14, 2}, {15, 1}, {15, 5}, {16, 0}, {16, 1}, {20, 0, 1, 0}, {24, 1, 1}, {25}, {26}, {27, 0}, {27, 3}};
        for (int[] call : calls) {
            int[] arguments = Arrays.copyOfRange(call, 1, 6);
            String name = Faces.NAMES[call[0]] + Arrays.toString(arguments);
            due.is(name + " is done", Faces.call(made.get(), call[0], arguments) >= 0 ? 1 : 0, 1);
            for (int view = 0; view < 4; view++) {
                ValuePlaces x = made.get();
                Faces.call(x, call[0], arguments);
                sameView(name, view, x, made.get());
            }
        }
    }
}
