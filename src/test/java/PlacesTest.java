/** Promises 9 to 13: cross, most, next, hold, copies. */
public final class PlacesTest {
    private static final int NONE = ValuePlaces.NONE, UNKNOWN = ValuePlaces.UNKNOWN;
    private static final int OUTSIDE = ValuePlaces.OUTSIDE, STATE = ValuePlaces.STATE;
    private static final Due due = new Due("PlacesTest");

    public static void main(String[] args) {
        cross();
        most();
        next();
        holdWithThree();
        holdWithMore();
        holdDropsOneThatIsNeverNeeded();
        holdInATree();
        holdRefused();
        copies();
        copiesAreSo();
        copiesRefused();
        due.end();
    }

    private static void cross() {
        ValuePlaces x = Due.of("r;p-;p0;p10;p21;p0");
        due.is("0 and 1", x.cross(0, 1), 1);
        due.is("1 and 0", x.cross(1, 0), 1);
        due.is("1 and 2", x.cross(1, 2), 1);
        due.is("0 and 2", x.cross(0, 2), 0);
        due.is("0 and 4", x.cross(0, 4), 0);
        due.is("both the same", x.cross(1, 1), UNKNOWN);
        due.is("no value", x.cross(0, 5), UNKNOWN);
        due.is("no value", x.cross(5, 0), UNKNOWN);
        due.is("no value", x.cross(-1, 0), UNKNOWN);
        due.is("no value", x.cross(0, Integer.MIN_VALUE), UNKNOWN);
    }

    private static void most() {
        ValuePlaces x = Due.of("r;p-;p0;p1;p2;p301;p423");
        due.is("pressure", x.most(0), 4);
        due.is("colours", x.most(1), 4);
        // 0 1 2 3 all cross, and 4 crosses 2 and 3.
        due.is("twos", x.most(2), 8);
        due.is("what", x.most(3), OUTSIDE);
        due.is("what", x.most(-1), OUTSIDE);
        x = Due.of("r;p-");
        due.is("pressure", x.most(0), 1);
        due.is("colours", x.most(1), 1);
        due.is("twos", x.most(2), 0);
        x = new ValuePlaces();
        due.is("no lines", x.most(0), STATE);
        due.is("no lines", x.most(2), STATE);
        due.is("what comes first", x.most(3), OUTSIDE);
    }

    private static void next() {
        // Two ways down from 1: to 3 by 2, to 6 by 4 and 5.
        ValuePlaces x = Due.of("r;p-;p0;p1;p20;p1;p4;p501");
        due.is("0 from 1", x.next(0, 1), 2);
        due.is("0 from 2", x.next(0, 2), 1);
        due.is("0 from 3", x.next(0, 3), 0);
        due.is("0 from 4", x.next(0, 4), 2);
        due.is("0 from 6", x.next(0, 6), 0);
        due.is("1 from 2", x.next(1, 2), NONE);
        due.is("1 from 4", x.next(1, 4), 2);
        due.is("4 from 5", x.next(4, 5), NONE);
        due.is("0 from 0", x.next(0, 0), STATE);
        due.is("1 from 0", x.next(1, 0), STATE);
        due.is("2 from 4", x.next(2, 4), STATE);
        due.is("no value", x.next(7, 1), UNKNOWN);
        due.is("no value", x.next(-1, 1), UNKNOWN);
        due.is("no line", x.next(0, 7), UNKNOWN);
        due.is("no line", x.next(0, -1), UNKNOWN);
    }

    private static void all(ValuePlaces x, int k, int spilled, int fetched, int dropped, int... held) {
        due.is("spilled with " + k, x.hold(k, 0), spilled);
        due.is("fetched with " + k, x.hold(k, 1), fetched);
        due.is("dropped with " + k, x.hold(k, 2), dropped);
        for (int l = 0; l < 8; l++) {
            due.is("held behind " + l + " with " + k, x.hold(k, 10 + l), l < held.length ? held[l] : NONE);
        }
    }

    private static void holdWithThree() {
        ValuePlaces x = Due.of("r;p-;p0;p1;p2;p310;p432;p510;p623");
        all(x, 3, 14, 3, 5, 1, 3, 7, 11, 25, 37, 68, 128);
    }

    private static void holdWithMore() {
        ValuePlaces x = Due.of("r;p-;p0;p1;p2;p310;p432;p510;p623");
        // Ahead of the own one of 4: 0 (2), 1 (2), 2 (1), 3 (1): 1 goes. 6 fetches it; 5, which nobody needs, goes.
        all(x, 4, 2, 1, 2, 1, 3, 7, 15, 29, 45, 76, 128);
        all(x, 5, 0, 0, 0, 1, 3, 7, 15, 31, 47, 76, 128);
        all(x, 8, 0, 0, 0, 1, 3, 7, 15, 31, 47, 76, 128);
    }

    private static void holdDropsOneThatIsNeverNeeded() {
        // Behind 3 are HELD 0, 1 and 3, which nobody USES; so 3 is DROPPED for 2, and not SPILLED.
        ValuePlaces x = Due.of("r;p-;p0;p1;p2;p302;p410");
        // Ahead of the own one of 3: 0 (later 1), 1 (2), 2 (1): 1 goes. 4: 3 stays HELD, as none is FETCHED, and is
        // let go. 5 fetches 1: 0 and 4 are HELD, there is room.
        all(x, 3, 2, 1, 1, 1, 3, 7, 13, 17, 32);
        x = Due.of("r;p-;p0;p1;p2;p310;p421");
        // Ahead of the own one of 3: 0 1 2 with 1, 1, 2: 2 goes. Behind 4: 1 4. 5 fetches 2 into the third place.
        all(x, 3, 4, 1, 1, 1, 3, 7, 11, 18, 32);
        x = Due.of("r;p-;p0;p1;p2;p321;p410");
        // Ahead of the own one of 3: 0 (2), 1 (1), 2 (1): 0 goes. Behind 4: 1 4. 5 fetches 0.
        all(x, 3, 1, 1, 1, 1, 3, 7, 14, 18, 32);
        x = Due.of("r;p-;p0;p1;p2;p30;p412;p501");
        // Ahead of the own one of 3: 0 (1), 1 (2), 2 (2): 2 goes, the greater. 4: let go 3; 0 1 stay, room for 4.
        // 5 fetches 2: HELD are 0 1 4; 4 is never needed: DROPPED, not SPILLED. 2 is let go.
        all(x, 3, 4, 1, 2, 1, 3, 7, 11, 19, 35, 64);
    }

    private static void holdInATree() {
        // Each branch goes on from what is HELD behind 3, which stands above both.
        ValuePlaces x = Due.of("r;p-;p0;p1;p2;p32;p310;p42");
        // Ahead of the own one of 3: 0 (1), 1 (1), 2 (1): 2 goes. 4: fetches 2, 0 1 3 are HELD, all NONE from 4 on:
        // 3 goes, the greatest. Behind 4: 2 4. 5: both HELD, none is FETCHED. 6: 2 is HELD.
        all(x, 3, 4, 1, 2, 1, 3, 7, 11, 20, 32, 64);
        // The fewest LINES down to any one of several that USE it count.
        x = Due.of("r;p-;p0;p1;p2;p31;p3;p52;p60");
        // Ahead of the own one of 3: 0 (3), 1 (1), 2 (2): 0 goes. 7 fetches it, by 5 and 6.
        all(x, 3, 1, 1, 1, 1, 3, 7, 14, 16, 36, 64, 128);
    }

    private static void holdRefused() {
        ValuePlaces x = Due.of("r;p-;p0");
        for (int k : new int[] {2, 9, -1, Integer.MIN_VALUE, Integer.MAX_VALUE}) {
            due.is("places " + k, x.hold(k, 0), OUTSIDE);
        }
        for (int what : new int[] {-1, 3, 9, 18, Integer.MIN_VALUE, Integer.MAX_VALUE}) {
            due.is("what " + what, x.hold(3, what), OUTSIDE);
        }
        due.is("no such line", x.hold(3, 12), NONE);
        due.is("no such line", x.hold(3, 17), NONE);
        x = new ValuePlaces();
        due.is("no lines", x.hold(3, 0), STATE);
        due.is("no lines", x.hold(3, 10), STATE);
        due.is("outside comes first", x.hold(2, 0), OUTSIDE);
        due.is("outside comes first", x.hold(3, 3), OUTSIDE);
    }

    private static void moves(int[] row, int spare, int... want) {
        ValuePlaces x = new ValuePlaces();
        Due.row(x, 1, 2, row);
        due.is("moves", x.copies(1, 2, 0, row.length, 0), want.length);
        due.is("to the spare place", x.copies(1, 2, 0, row.length, 1), spare);
        for (int j = 0; j < 20; j++) {
            due.is("move " + j, x.copies(1, 2, 0, row.length, 10 + j), j < want.length ? want[j] : NONE);
        }
    }

    private static void copies() {
        moves(new int[] {}, 0);
        moves(new int[] {0}, 0);
        moves(new int[] {1, 0}, 1, 20, 1, 12);
        moves(new int[] {0, 0, 0}, 0, 10, 20);
        // The free one is filled first, then the two that change places.
        moves(new int[] {1, 0, 1}, 1, 21, 30, 1, 13);
        // 3 has what 0 wants, and is filled behind it.
        moves(new int[] {3, 0, 0, 1}, 1, 20, 40, 3, 31, 14);
        moves(new int[] {1, 0, 3, 2, 5, 4, 7, 6}, 4, 80, 1, 18, 82, 23, 38, 84, 45, 58, 86, 67, 78);
        moves(new int[] {4, 4, 1, 3, 2}, 1, 4, 51, 14, 42, 25);
        // Of those that are free the least one, whether it was or just became so.
        moves(new int[] {0, 2, 3, 3, 0}, 0, 12, 23, 40);
        moves(new int[] {3, 1, 1, 1}, 0, 3, 21, 31);
        moves(new int[] {0, 0, 1, 0}, 0, 21, 10, 30);
    }

    /** Whatever is told, the moves bring it about. */
    private static void copiesAreSo() {
        ValuePlaces x = new ValuePlaces();
        for (int code = 0; code < 3125; code++) {
            if (code % 20 == 0) {
                x = new ValuePlaces();
            }
            int[] row = {code % 5, code / 5 % 5, code / 25 % 5, code / 125 % 5, code / 625};
            Due.row(x, 0, 0, row);
            int[] has = {0, 1, 2, 3, 4, -1};
            for (int j = 0; j < 20; j++) {
                int move = x.copies(0, 0, 0, 5, 10 + j);
                if (move == NONE) {
                    break;
                }
                has[move / 10] = has[move % 10];
            }
            for (int i = 0; i < 5; i++) {
                if (has[i] != row[i]) {
                    due.is("copies " + code + ", place " + i, has[i], row[i]);
                }
            }
        }
        due.is("all were tried", 1, 1);
    }

    private static void copiesRefused() {
        ValuePlaces x = new ValuePlaces();
        Due.row(x, 0, 1, 9, 1, 0, 2, -1);
        due.is("no sheet", x.copies(4, 9, 0, 9, 9), UNKNOWN);
        due.is("no sheet", x.copies(-1, 0, 0, 0, 0), UNKNOWN);
        due.is("lane", x.copies(0, 3, 0, 0, 0), OUTSIDE);
        due.is("lane", x.copies(0, -1, 0, 0, 0), OUTSIDE);
        due.is("n", x.copies(0, 1, 0, -1, 0), OUTSIDE);
        due.is("n", x.copies(0, 1, 0, 9, 0), OUTSIDE);
        for (int what : new int[] {-1, 2, 9, 30}) {
            due.is("what", x.copies(0, 1, 0, 0, what), OUTSIDE);
        }
        due.is("cast", x.copies(0, 2, 9, 0, 0), -12);
        due.is("fault", x.fault(), 2);
        due.is("null", x.copies(1, 2, 9, 0, 0), -11);
        due.is("fault", x.fault(), 1);
        due.is("index", x.copies(0, 1, 6, 0, 0), -13);
        due.is("index", x.copies(0, 1, -1, 0, 0), -13);
        due.is("index", x.copies(0, 1, 4, 2, 0), -13);
        due.is("index", x.copies(0, 1, Integer.MAX_VALUE, 8, 0), -13);
        due.is("fault", x.fault(), 3);
        due.is("from 1 on", x.copies(0, 1, 1, 2, 0), 3);
        due.is("fault", x.fault(), 0);
        due.is("none at the end", x.copies(0, 1, 5, 0, 0), 0);
        x.copies(0, 1, 6, 0, 0);
        due.is("a cell of n", x.copies(0, 1, 2, 2, 0), OUTSIDE);
        due.is("fault", x.fault(), 0);
        due.is("a cell below 0", x.copies(0, 1, 3, 2, 10), OUTSIDE);
        due.is("a cell above", x.copies(0, 1, 0, 5, 0), OUTSIDE);
    }
}
