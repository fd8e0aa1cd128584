/** The edges of part 3 of the document: what is needed next, PLACES, COPIES, and promises 9 to 13. */
public final class PlacesEdgesTest {
    private static final int UNKNOWN = ValuePlaces.UNKNOWN, OUTSIDE = ValuePlaces.OUTSIDE;
    private static final int STATE = ValuePlaces.STATE, NONE = ValuePlaces.NONE;
    private static final int LEAST = Due.LEAST, GREATEST = Due.GREATEST;
    private static final int NULL = 1, CAST = 2, INDEX = 3;

    /** A chain of eight, of which the last three USE what is told at first. */
    private static final String CHAIN = "r;p-;p0;p1;p2;p3;p401;p523;p64";

    private static final Due due = new Due("PlacesEdgesTest");

    public static void main(String[] args) {
        nextUse();
        heldAtFirst();
        fetched();
        letGo();
        ownIsHeld();
        latestIsDropped();
        spilled();
        copiesTold();
        freePlaces();
        sparePlace();
        cross();
        crossRefused();
        most();
        mostRefused();
        nextRefused();
        hold();
        holdRefused();
        copies();
        copiesRefused();
        copiesFaults();
        copiesOfOtherCells();
        due.end();
    }

    // ---- NEXT USE

    private static void nextUse() {
        due.says(0, "NEXT USE of a VALUE from a LINE on: 0, if that USES it");
        ValuePlaces x = Due.of("r;p-;p00;p10;p2;p310;p4;p5;p60");
        due.is("place 0", x.next(0, 1), 0);
        due.is("USED further down, too", x.next(0, 2), 0);
        due.is("place 0 of two", x.next(1, 4), 0);
        due.is("place 1 of two", x.next(0, 4), 0);
        due.is("by the last", x.next(0, 7), 0);
        due.says(0, "else the fewest LINES down from it (1: one right below it) to one that does");
        due.is("right below", x.next(0, 3), 1);
        due.is("two down", x.next(1, 2), 2);
        due.is("the nearest of two", x.next(1, 3), 1);
        due.is("three down", x.next(0, 5), 2);
        // As far down as can be.
        due.is("six down", Due.of("r;p-;p0;p1;p2;p3;p4;p5;p60").next(0, 1), 6);
        // LINES count, not numbers: 7 stands two below 1, 5 stands three below it.
        ValuePlaces y = Due.of("r;p-;p0;p1;p2;p3;p30;p2;p10");
        due.is("by numbers it is further", y.next(0, 1), 1);
        due.is("in its branch alone", y.next(0, 2), 2);
        due.is("in its branch alone", y.next(0, 3), 1);
        due.says(0, "to one that does; NONE.");
        due.is("USED by none", y.next(1, 2), NONE);
        due.is("in another branch", y.next(0, 4), NONE);
        due.is("in another branch", y.next(0, 6), NONE);
        due.is("USED above it alone", x.next(1, 5), NONE);
    }

    // ---- PLACES

    private static void places(String text, int k, int spilled, int fetched, int dropped, int... held) {
        ValuePlaces x = Due.of(text);
        String with = " with " + k + " of " + text;
        due.is("SPILLED" + with, x.hold(k, 0), spilled);
        due.is("FETCHED" + with, x.hold(k, 1), fetched);
        due.is("DROPPED" + with, x.hold(k, 2), dropped);
        for (int l = 0; l < 8; l++) {
            due.is("HELD behind " + l + with, x.hold(k, 10 + l), l < held.length ? held[l] : NONE);
        }
    }

    private static void heldAtFirst() {
        due.says(0, "With k PLACES (3 .. 8), HELD behind each LINE are VALUES, by LINES in the order of numbers: "
            + "at first what is HELD behind its ABOVE (nothing, of LINE 0).");
        places("r;p-", 3, 0, 0, 0, 1);
        places("r;p-;p00", 3, 0, 0, 0, 1, 2);
        // 3 and 5 go on from 1, 4 from 2: what is HELD behind the LINE told ahead does not count.
        places("r;p-;p0;p0;p10;p20;p11", 3, 0, 0, 0, 1, 3, 5, 8, 16, 32);
    }

    private static void fetched() {
        due.says(0, "Each USED one that is not HELD, in their order, is FETCHED: if k are HELD, one of those that the LINE "
            + "does not USE is DROPPED ahead of that; it is HELD then.");
        // 3 makes 1 go (later 3, as 0 has, the greater number). 6 needs it: 0, 4, 5 are HELD; 6 USES 0 itself, which
        // nobody needs then, so 5 goes, which 7 needs. 7 fetches 5: two are HELD, so none goes.
        places("r;p-;p0;p1;p2;p3;p42;p501;p654", 3, 34, 2, 2, 1, 3, 7, 13, 21, 49, 80, 128);
        // The one that is FETCHED stays, as 7 needs it once more.
        places("r;p-;p0;p1;p2;p3;p42;p501;p61", 3, 2, 1, 1, 1, 3, 7, 13, 21, 33, 66, 128);
        // 3 makes 2 go, 4 makes 3 go; 6 fetches both: there is room for one, for the other 5 goes.
        places(CHAIN, 3, 12, 2, 3, 1, 3, 7, 11, 19, 48, 80, 128);
        // None is FETCHED where both are HELD.
        places("r;p-;p0;p110", 3, 0, 0, 0, 1, 3, 4);
    }

    private static void letGo() {
        due.says(0, "Then all that no LINE BELOW it USES are let go.");
        // At 3 all places are taken, but 1 and 2 are let go first, so none is DROPPED.
        places("r;p-;p0;p1;p221;p330", 3, 0, 0, 0, 1, 3, 7, 9, 16);
        // Nobody USES 1: it is HELD behind its own LINE alone.
        places("r;p-;p0;p1;p20", 3, 0, 0, 0, 1, 3, 5, 8);
        // 0 is USED below 1, and let go in the other branch.
        places("r;p-;p0;p0;p10", 3, 0, 0, 0, 1, 3, 4, 8);
    }

    private static void ownIsHeld() {
        due.says(0, "Then, if k are HELD, one is DROPPED; the own VALUE is HELD.");
        // With 3 LINE 3 needs room, with 4 LINE 4 does, with 5 none does.
        places(CHAIN, 3, 12, 2, 3, 1, 3, 7, 11, 19, 48, 80, 128);
        places(CHAIN, 4, 8, 1, 1, 1, 3, 7, 15, 23, 52, 80, 128);
        for (int k = 5; k <= 8; k++) {
            places(CHAIN, k, 0, 0, 0, 1, 3, 7, 15, 31, 60, 80, 128);
        }
        // Its own VALUE is HELD, though nobody needs it, and another one goes for that.
        places("r;p-;p0;p1;p2;p310;p42", 3, 4, 1, 1, 1, 3, 7, 11, 16, 32);
    }

    private static void latestIsDropped() {
        due.says(0, "DROPPED is, of those told, the one with the greatest LATER USE: the fewest LINES down from the LINE "
            + "(1: one right below it) to one that USES it");
        // Behind 2 are 0, 1, 2: 4 needs two of them, 5 the third one, which goes at 3.
        places("r;p-;p0;p1;p2;p312;p40", 3, 1, 1, 1, 1, 3, 7, 14, 16, 32);
        places("r;p-;p0;p1;p2;p302;p41", 3, 2, 1, 1, 1, 3, 7, 13, 16, 32);
        places("r;p-;p0;p1;p2;p301;p42", 3, 4, 1, 1, 1, 3, 7, 11, 16, 32);
        // 2 is needed at 4 and at 6: the nearest one counts, so 1 goes, which 5 needs.
        places("r;p-;p0;p1;p2;p320;p41;p52", 3, 2, 1, 1, 1, 3, 7, 13, 20, 36, 64);
        due.says(0, "(NONE is greater than all; of several the greatest number)");
        // All three are needed one down: 2 goes. At 5, which fetches it, nobody needs 0 any more, and 6 needs 3.
        places("r;p-;p0;p1;p2;p30;p312;p53", 3, 4, 1, 2, 1, 3, 7, 11, 16, 40, 64);
        // At 5 nobody needs 0, 3 any more: of these 3 goes.
        places("r;p-;p0;p1;p2;p30;p312", 3, 4, 1, 2, 1, 3, 7, 11, 16, 32);
        // 1 and 2 are both needed at 5: 2 goes; and 0 is needed at 4.
        places("r;p-;p0;p1;p2;p30;p412", 3, 4, 1, 1, 1, 3, 7, 11, 18, 32);
    }

    private static void spilled() {
        due.says(0, "it is SPILLED, if that is not NONE.");
        // 3 makes 2 go, which 5 needs; 5 makes 4 go, which nobody needs: two are DROPPED, one is SPILLED.
        places("r;p-;p0;p1;p2;p30;p412;p501", 3, 4, 1, 2, 1, 3, 7, 11, 19, 35, 64);
        // 2 goes at 3; 5 fetches it in place of 4, which nobody needs, and makes it go again for its own VALUE.
        places("r;p-;p0;p1;p2;p301;p42;p501;p62", 3, 4, 2, 3, 1, 3, 7, 11, 19, 35, 64, 128);
        places("r;p-;p0;p1", 3, 0, 0, 0, 1, 2, 4);
    }

    // ---- COPIES

    private static void moves(int[] row, int spare, int... want) {
        ValuePlaces x = new ValuePlaces();
        Due.row(x, 0, 0, row);
        String of = " of " + java.util.Arrays.toString(row);
        due.is("MOVES" + of, x.copies(0, 0, 0, row.length, 0), want.length);
        due.is("to the spare place" + of, x.copies(0, 0, 0, row.length, 1), spare);
        for (int j = 0; j < 20; j++) {
            due.is("MOVE " + j + of, x.copies(0, 0, 0, row.length, 10 + j), j < want.length ? want[j] : NONE);
        }
    }

    private static void copiesTold() {
        due.says(0, "COPIES told: a row of n numbers 0 .. n less 1: place i is to have what the place of its number has "
            + "now, all at once; place n is spare.");
        int[] same = {0, 1, 2, 3, 4, 5, 6, 7};
        for (int n = 0; n <= 8; n++) {
            moves(java.util.Arrays.copyOf(same, n), 0);
        }
        moves(new int[8], 0, 10, 20, 30, 40, 50, 60, 70);
        moves(new int[] {1, 1}, 0, 1);
        moves(new int[] {0, 0}, 0, 10);
        for (int n = 2; n <= 8; n++) {
            // All want what the next one has: the spare place is n.
            int[] round = new int[n];
            int[] want = new int[n + 1];
            want[0] = 10 * n;
            for (int i = 0; i < n; i++) {
                round[i] = (i + 1) % n;
                want[i + 1] = 10 * i + (i == n - 1 ? n : i + 1);
            }
            moves(round, 1, want);
        }
        // Each row of up to 4, and what the places have behind its MOVES.
        for (int n = 1; n <= 4; n++) {
            for (int code = 0; code < Math.pow(n, n); code++) {
                bringAbout(n, code);
            }
        }
    }

    private static void bringAbout(int n, int code) {
        int[] row = new int[n];
        for (int i = 0, rest = code; i < n; i++, rest /= n) {
            row[i] = rest % n;
        }
        ValuePlaces x = new ValuePlaces();
        Due.row(x, 0, 0, row);
        int[] has = {0, 1, 2, 3, 4, 5};
        has[n] = -1;
        for (int j = 0; j < x.copies(0, 0, 0, n, 0); j++) {
            int move = x.copies(0, 0, 0, n, 10 + j);
            has[move / 10] = has[move % 10];
        }
        for (int i = 0; i < n; i++) {
            due.is("place " + i + " of " + java.util.Arrays.toString(row), has[i], row[i]);
        }
    }

    private static void freePlaces() {
        due.says(0, "MOVES, one behind another, till all is so: of all places that are still to get something else, "
            + "and whose own is wanted by no other such place, the least one gets what it wants");
        // A place that has what it wants is not moved, though nobody wants it.
        moves(new int[] {0, 1, 0}, 0, 20);
        // 3 alone is free at first; then each in turn, from the back.
        moves(new int[] {0, 0, 1, 2}, 0, 32, 21, 10);
        // 0 is free at first; then each in turn, from the front.
        moves(new int[] {1, 2, 3, 3}, 0, 1, 12, 23);
        // 1 becomes free by the MOVE of 3, and is less than 4, which was free all along.
        moves(new int[] {0, 0, 2, 1, 2}, 0, 31, 10, 42);
        // It wants what it has itself: that is not another place.
        moves(new int[] {1, 1, 1, 3}, 0, 1, 21);
        // Two want the same: it is free when both have it.
        moves(new int[] {2, 2, 3, 3}, 0, 2, 12, 23);
    }

    private static void sparePlace() {
        due.says(0, "if there are none, but some are still to get something, the spare place gets what the least of these "
            + "has, and who wanted it from there wants it from the spare place then.");
        moves(new int[] {1, 0}, 1, 20, 1, 12);
        // 0 is not among them.
        moves(new int[] {0, 2, 1}, 1, 31, 12, 23);
        // A free one goes ahead; who wanted it from 0 gets it from there while it is there.
        moves(new int[] {1, 0, 0}, 1, 20, 30, 1, 13);
        // One round behind another: the spare place is used again.
        moves(new int[] {2, 3, 0, 1}, 2, 40, 2, 24, 41, 13, 34);
        // As many MOVES as there can be.
        moves(new int[] {7, 6, 5, 4, 3, 2, 1, 0}, 4, 80, 7, 78, 81, 16, 68, 82, 25, 58, 83, 34, 48);
        moves(new int[] {1, 2, 0, 4, 5, 3, 7, 6}, 3, 80, 1, 12, 28, 83, 34, 45, 58, 86, 67, 78);
    }

    // ---- Promises 9 to 11

    private static void cross() {
        due.says(9, "Whether two VALUES CROSS: 1, 0.");
        ValuePlaces x = Due.of(CHAIN);
        int[] crossing = {30, 29, 59, 55, 111, 28, 16, 0};
        for (int a = 0; a < 8; a++) {
            for (int b = 0; b < 8; b++) {
                due.is("cross(" + a + ", " + b + ")", x.cross(a, b), a == b ? UNKNOWN : crossing[a] >> b & 1);
            }
            due.is("all of " + a, x.ofLine(a, 6), crossing[a]);
        }
    }

    private static void crossRefused() {
        due.says(9, "UNKNOWN: either, both the same.");
        ValuePlaces x = Due.of("r;p-;p0;p10");
        due.is("both are there", x.cross(0, 1), 1);
        due.all("a", a -> x.cross(a, 0), UNKNOWN, LEAST, -1, 3, 8, GREATEST);
        due.all("b", b -> x.cross(0, b), UNKNOWN, LEAST, -1, 3, 8, GREATEST);
        due.all("both", a -> x.cross(a, a), UNKNOWN, LEAST, -1, 0, 1, 2, 3, GREATEST);
        due.is("of one", Due.of("r;p-").cross(0, 0), UNKNOWN);
    }

    private static void most() {
        due.says(10, "The greatest PRESSURE (what 0), how many COLOURS are given (1), how many twos CROSS (2).");
        String[] texts = {"r;p-", "r;p-;p0", "r;p-;p0;p10", "r;p-;p0;p1;p201", "r;p-;p0;p0;p1;p2", CHAIN};
        int[][] all = {{1, 1, 0}, {1, 1, 0}, {2, 2, 1}, {3, 3, 3}, {1, 1, 0}, {5, 5, 14}};
        for (int t = 0; t < texts.length; t++) {
            ValuePlaces x = Due.of(texts[t]);
            for (int what = 0; what < 3; what++) {
                due.is("most(" + what + ") of " + texts[t], x.most(what), all[t][what]);
            }
        }
    }

    private static void mostRefused() {
        due.says(10, "OUTSIDE;");
        ValuePlaces x = Due.of("r;p-");
        due.all("what", x::most, OUTSIDE, LEAST, -1, 3, GREATEST);
        ValuePlaces none = new ValuePlaces();
        due.all("what without LINES", none::most, OUTSIDE, LEAST, -1, 3, GREATEST);
        due.says(10, "STATE: there are no LINES.");
        due.all("what without LINES", none::most, STATE, 0, 1, 2);
        due.is("one LINE", x.most(0), 1);
    }

    private static void nextRefused() {
        due.says(11, "NEXT USE of a VALUE from a LINE on; NONE.");
        ValuePlaces x = Due.of(CHAIN);
        int[] from1 = {4, STATE, STATE, STATE, STATE, STATE, STATE, STATE};
        int[] from7 = {NONE, NONE, NONE, NONE, 0, NONE, NONE, STATE};
        int[] from5 = {0, 0, 1, 1, 2, STATE, STATE, STATE};
        for (int v = 0; v < 8; v++) {
            due.is("next(" + v + ", 1)", x.next(v, 1), from1[v]);
            due.is("next(" + v + ", 5)", x.next(v, 5), from5[v]);
            due.is("next(" + v + ", 7)", x.next(v, 7), from7[v]);
        }
        due.says(11, "UNKNOWN: either");
        due.all("value", v -> x.next(v, 7), UNKNOWN, LEAST, NONE, -1, 8, GREATEST);
        due.all("line", l -> x.next(0, l), UNKNOWN, LEAST, NONE, -1, 8, GREATEST);
        ValuePlaces y = Due.of("r;p-;p0;p0;p1");
        due.all("value", v -> y.next(v, 3), UNKNOWN, -1, 4, 7);
        due.all("line", l -> y.next(0, l), UNKNOWN, -1, 4, 7);
        due.says(11, "STATE: the LINE is not BELOW it.");
        due.all("itself", v -> y.next(v, v), STATE, 0, 1, 2, 3);
        due.is("the one above", y.next(1, 0), STATE);
        due.is("another branch", y.next(2, 3), STATE);
        due.is("another branch", y.next(1, 2), STATE);
        due.is("below", y.next(0, 3), NONE);
    }

    // ---- Promise 12

    private static void hold() {
        due.says(12, "With k PLACES (3 .. 8): VALUES that are SPILLED, as a set (what 0), how many times any is FETCHED (1), "
            + "is DROPPED (2), HELD behind LINE l, as a set (10 and l;");
        places(CHAIN, 3, 12, 2, 3, 1, 3, 7, 11, 19, 48, 80, 128);
        places(CHAIN, 8, 0, 0, 0, 1, 3, 7, 15, 31, 60, 80, 128);
        // One behind another, on the same object: each k tells of its own PLACES alone.
        ValuePlaces all = Due.of(CHAIN);
        int[][] due3to8 = {{3, 12, 2, 3}, {8, 0, 0, 0}, {4, 8, 1, 1}, {5, 0, 0, 0}, {3, 12, 2, 3}};
        for (int[] want : due3to8) {
            due.is("SPILLED with " + want[0], all.hold(want[0], 0), want[1]);
            due.is("FETCHED with " + want[0], all.hold(want[0], 1), want[2]);
            due.is("DROPPED with " + want[0], all.hold(want[0], 2), want[3]);
        }
        all.cut();
        all.cut();
        due.is("SPILLED, when the last two are gone", all.hold(3, 0), 0);
        due.says(12, "NONE: there is no such LINE).");
        ValuePlaces x = Due.of("r;p-;p0");
        due.is("LINE 1", x.hold(3, 11), 2);
        due.all("what", what -> x.hold(3, what), NONE, 12, 13, 17);
        ValuePlaces one = Due.of("r;p-");
        due.is("LINE 0", one.hold(8, 10), 1);
        due.all("what", what -> one.hold(8, what), NONE, 11, 17);
        due.is("LINE 7", Due.of(CHAIN).hold(8, 17), 128);
    }

    private static void holdRefused() {
        due.says(12, "OUTSIDE: k, what (0 .. 2, 10 .. 17)");
        ValuePlaces x = Due.of(CHAIN);
        due.all("k", k -> x.hold(k, 10), OUTSIDE, LEAST, -1, 0, 1, 2, 9, GREATEST);
        due.all("k", k -> x.hold(k, 10), 1, 3, 4, 5, 6, 7, 8);
        due.all("what", what -> x.hold(3, what), OUTSIDE, LEAST, -1, 3, 9, 18, GREATEST);
        due.is("what 2", x.hold(3, 2), 3);
        due.is("what 10", x.hold(3, 10), 1);
        due.is("what 17", x.hold(3, 17), 128);
        ValuePlaces none = new ValuePlaces();
        due.all("k without LINES", k -> none.hold(k, 0), OUTSIDE, LEAST, 2, 9, GREATEST);
        due.all("what without LINES", what -> none.hold(3, what), OUTSIDE, LEAST, -1, 3, 9, 18, GREATEST);
        due.says(12, "STATE: there are no LINES.");
        due.all("what without LINES", what -> none.hold(3, what), STATE, 0, 1, 2, 10, 17);
        due.all("k without LINES", k -> none.hold(k, 0), STATE, 3, 8);
    }

    // ---- Promise 13

    private static void copies() {
        due.says(13, "COPIES told by n cells of a SHEET from i on: how many MOVES (what 0), "
            + "how many times the spare place gets something (1), the MOVE in place j (10 and j, to 29): "
            + "10 times the place that gets it and the one from which it does; NONE: there are not so many.");
        int[] row = new int[60];
        int[] last = {7, 6, 5, 4, 3, 2, 1, 0};
        System.arraycopy(last, 0, row, 52, 8);
        int[] want = {80, 7, 78, 81, 16, 68, 82, 25, 58, 83, 34, 48};
        for (int k = 0; k < 4; k++) {
            for (int lane = 0; lane < 3; lane++) {
                ValuePlaces x = new ValuePlaces();
                Due.row(x, k, lane, row);
                due.is("the last 8 of 60", x.copies(k, lane, 52, 8, 0), 12);
                due.is("to the spare place", x.copies(k, lane, 52, 8, 1), 4);
                for (int j = 0; j < 20; j++) {
                    due.is("MOVE " + j, x.copies(k, lane, 52, 8, 10 + j), j < 12 ? want[j] : NONE);
                }
                due.is("the first 8 of 60", x.copies(k, lane, 0, 8, 0), 7);
                due.is("one", x.copies(k, lane, 59, 1, 0), 0);
                due.is("none", x.copies(k, lane, 60, 0, 0), 0);
                due.is("no MOVE", x.copies(k, lane, 60, 0, 10), NONE);
            }
        }
        // What was told ahead of it leaves nothing behind, whether it was done or refused.
        ValuePlaces x = new ValuePlaces();
        Due.row(x, 0, 0, 1, 0, 3, 0, 1, 2);
        int[] ahead = {2, 3};
        int[] answers = {3, OUTSIDE};
        for (int n = 0; n < 2; n++) {
            due.is("ahead of it", x.copies(0, 0, 0, ahead[n], 0), answers[n]);
            due.is("none, MOVES", x.copies(0, 0, 0, 0, 0), 0);
            due.is("ahead of it", x.copies(0, 0, 0, ahead[n], 0), answers[n]);
            due.is("none, to the spare place", x.copies(0, 0, 0, 0, 1), 0);
            due.is("ahead of it", x.copies(0, 0, 0, ahead[n], 0), answers[n]);
            due.is("none, the first MOVE", x.copies(0, 0, 0, 0, 10), NONE);
            due.is("ahead of it", x.copies(0, 0, 0, ahead[n], 0), answers[n]);
            due.is("all where they are, MOVES", x.copies(0, 0, 3, 3, 0), 0);
            due.is("ahead of it", x.copies(0, 0, 0, ahead[n], 0), answers[n]);
            due.is("all where they are, the first MOVE", x.copies(0, 0, 3, 3, 10), NONE);
        }
    }

    private static void copiesRefused() {
        ValuePlaces x = new ValuePlaces();
        for (int k = 0; k < 4; k++) {
            x.sheet(k, 0, 60);
        }
        due.says(13, "UNKNOWN: SHEET");
        due.all("sheet", k -> x.copies(k, 0, 0, 2, 0), 1, 0, 3);
        due.all("sheet", k -> x.copies(k, 0, 0, 2, 0), UNKNOWN, LEAST, -1, 4, GREATEST);
        due.says(13, "OUTSIDE: lane, n (0 .. 8), what (0, 1, 10 .. 29)");
        due.all("lane", lane -> x.copies(0, lane, 0, 2, 0), OUTSIDE, LEAST, -1, 3, GREATEST);
        due.all("n", n -> x.copies(0, 0, 0, n, 0), OUTSIDE, LEAST, -1, 9, 60, 61, GREATEST);
        due.is("n of 0", x.copies(0, 0, 0, 0, 0), 0);
        due.is("n of 8", x.copies(0, 0, 0, 8, 0), 7);
        due.all("what", what -> x.copies(0, 0, 0, 2, what), OUTSIDE, LEAST, -1, 2, 9, 30, GREATEST);
        due.is("what 1", x.copies(0, 0, 0, 2, 1), 0);
        due.is("what 10", x.copies(0, 0, 0, 2, 10), 10);
        due.is("what 29", x.copies(0, 0, 0, 2, 29), NONE);
        due.is("fault", x.fault(), 0);
    }

    private static void copiesFaults() {
        due.says(13, "FAULTS CAST, NULL, INDEX");
        ValuePlaces x = new ValuePlaces();
        for (int had = 0; had < 3; had++) {
            Due.row(x, 0, had, 1, 0, 0);
            for (int lane = 0; lane < 3; lane++) {
                due.is("lane " + lane + " of " + had, x.copies(0, lane, 0, 3, 0), lane == had ? 4 : -12);
                due.is("fault", x.fault(), lane == had ? 0 : CAST);
            }
            x.lose(0);
            due.fails(x, "nothing, lane", lane -> x.copies(0, lane, 0, 0, 0), NULL, 0, 1, 2);
        }
        Due.row(x, 0, 0, 1, 0, 0);
        due.fails(x, "n", n -> x.copies(0, 0, 0, n, 0), INDEX, 4, 8);
        due.fails(x, "i, of two", i -> x.copies(0, 0, i, 2, 0), INDEX, LEAST, -1, 2, GREATEST);
        due.fails(x, "i, of none", i -> x.copies(0, 0, i, 0, 0), INDEX, LEAST, -1, 4, GREATEST);
        due.is("the last two", x.copies(0, 0, 1, 2, 0), 1);
        due.is("none at the end", x.copies(0, 0, 3, 0, 0), 0);
        x.sheet(0, 0, 0);
        due.is("none of a row of none", x.copies(0, 0, 0, 0, 0), 0);
        due.fails(x, "one of a row of none", n -> x.copies(0, 0, 0, n, 0), INDEX, 1);
    }

    private static void copiesOfOtherCells() {
        due.says(13, "OUTSIDE: a cell is not 0 .. n less 1.");
        for (int n = 1; n <= 8; n++) {
            for (int at = 0; at < n; at++) {
                ValuePlaces x = new ValuePlaces();
                x.sheet(0, 2, 8);
                // A FAULT ahead of it, which the refused call makes 0.
                x.put(1, 0, 0);
                for (int number : new int[] {LEAST, -1, n, 8, GREATEST}) {
                    x.put(0, at, number);
                    due.is(number + " at " + at + " of " + n, x.copies(0, 2, 0, n, 10), OUTSIDE);
                    due.is("fault", x.fault(), 0);
                }
                x.put(0, at, n - 1);
                due.is("the greatest at " + at + " of " + n, x.copies(0, 2, 0, n, 29), NONE);
                x.put(0, at, 0);
                due.is("the least at " + at + " of " + n, x.copies(0, 2, 0, n, 0), n - 1);
                if (n < 8) {
                    x.put(0, n, 99);
                    due.is("what is behind does not count", x.copies(0, 2, 0, n, 0), n - 1);
                }
            }
        }
    }
}
