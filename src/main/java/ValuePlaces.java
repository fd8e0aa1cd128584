import java.util.Arrays;

/**
 * Values and the places that hold them, as ../shared/DOC.md promises.
 *
 * Every row is made with the object and used again: no call makes anything.
 */
public final class ValuePlaces {
    public static final int UNKNOWN = -1, OUTSIDE = -2, STATE = -3, FULL = -4, NONE = -9;
    public static final long LOST = Long.MIN_VALUE;

    private static final int NO_FAULT = 0, NULL = 1, CAST = 2, INDEX = 3, SIZE = 4;
    private static final int FAULT_ANSWER = -10, FIRST_ANSWER = -100;

    private static final int PLAIN = 0, BULKY = 1, DOUBLE = 2;
    private static final int BYTES = 0, SHORTS = 1, INTS = 2;

    private static final int MOST_LINES = 8, MOST_USED = 2, NO_ABOVE = 8;
    private static final int MOST_SHEETS = 4, MOST_CELLS = 60;
    private static final int LEAST_PLACES = 3, MOST_PLACES = 8;
    private static final int MOST_ACTS = 20, CELLS_OF_ACT = 3;
    private static final int MOST_COPIES = 8, MOST_MOVES = 20;
    private static final int MOST_READINGS = 8, MOST_COST = 20;

    /** From this number on, a call's "what" names a LINE, a VALUE or a MOVE. */
    private static final int NUMBERED = 10;

    private static final int PLAIN_BODY = 1, BULKY_BODY = 2, DOUBLE_BODY = 3;
    private static final int LENT_LABEL_BODY = 4, DOUBLE_LABEL_BODY = 5;
    private static final int BULKY_EXTRA = 100, DOUBLE_LABEL = 90, TRACE_FACTOR = 31;

    private final Sheet[] sheets;
    private final Tree tree;
    /** Where a TEXT, a DAY, KINDS and FIRSTS are tried, so that the tree itself stays as it is. */
    private final Tree trial;
    private final TextReader reader;
    private final Holding holding;
    private final Moves moves;
    private final Readings readings;
    private int traceSoFar;
    private int latestFault;

    public ValuePlaces() {
        sheets = new Sheet[MOST_SHEETS];
        for (int k = 0; k < MOST_SHEETS; k++) {
            sheets[k] = new Sheet();
        }
        tree = new Tree();
        trial = new Tree();
        reader = new TextReader(trial);
        holding = new Holding();
        moves = new Moves();
        readings = new Readings();
    }

    // ---- 1 lines

    public int lines(int sheet, int lane, int i, int n) {
        latestFault = NO_FAULT;
        if (!isSheet(sheet)) {
            return UNKNOWN;
        }
        if (!isLane(lane)) {
            return OUTSIDE;
        }
        int fault = sheets[sheet].faultOfCells(lane, i, n);
        if (fault != NO_FAULT) {
            return faulty(fault);
        }
        int first = reader.firstFault(sheets[sheet], i, n);
        if (first != NONE) {
            return FIRST_ANSWER - first;
        }
        tree.becomeLike(trial);
        readings.keepOnly(0);
        return tree.count;
    }

    public int ofLine(int l, int what) {
        if (!tree.isLine(l)) {
            return UNKNOWN;
        }
        switch (what) {
            case 0: return tree.kind[l];
            case 1: return tree.above[l];
            case 2: return tree.howManyUsed[l];
            case 3: return tree.liveBehind(l);
            case 4: return tree.pressure(l);
            case 5: return tree.colourOf(l);
            case 6: return tree.crossing(l);
            case 7: return tree.usersOf(l);
            case 8: return tree.cost(l);
            default: return OUTSIDE;
        }
    }

    public int used(int l, int i) {
        return tree.hasPlace(l, i) ? tree.usedIn(l, i) : UNKNOWN;
    }

    public int reuse(int l, int i, int v) {
        if (!tree.hasPlace(l, i) || !tree.isLine(v)) {
            return UNKNOWN;
        }
        if (!tree.mayUse(l, i, v)) {
            return STATE;
        }
        int was = tree.usedIn(l, i);
        tree.useInstead(l, i, v);
        return was;
    }

    // ---- 2 what changes

    public int grow(int kind, int above, int a, int b) {
        if (!isKind(kind)) {
            return OUTSIDE;
        }
        if (!tree.isLine(above) || !isLineOrNone(a) || !isLineOrNone(b) || (a == NONE && b != NONE)) {
            return UNKNOWN;
        }
        if (!wouldBeBelow(above, a) || !wouldBeBelow(above, b) || (a != NONE && a == b)) {
            return STATE;
        }
        if (tree.count >= MOST_LINES) {
            return FULL;
        }
        int number = tree.count;
        tree.putOn(kind, above);
        tree.useToo(a);
        tree.useToo(b);
        return number;
    }

    public int cut() {
        if (tree.count <= 1) {
            return STATE;
        }
        tree.takeLast();
        readings.forget(tree.count);
        return tree.count;
    }

    public int day(int sheet, int lane, int i, int n, int what) {
        latestFault = NO_FAULT;
        if (!isSheet(sheet)) {
            return UNKNOWN;
        }
        if (!isLane(lane) || n < 0 || n > MOST_ACTS || !isDayQuestion(what)) {
            return OUTSIDE;
        }
        int fault = sheets[sheet].faultOfCells(lane, i, CELLS_OF_ACT * n);
        if (fault != NO_FAULT) {
            return faulty(fault);
        }
        if (tree.count == 0) {
            return STATE;
        }
        int wrong = firstWrong(sheets[sheet], i, n);
        if (what == 1) {
            return wrong;
        }
        return wrong == NONE ? ofTrial(what) : FIRST_ANSWER - wrong;
    }

    // ---- 3 places

    public int cross(int a, int b) {
        if (!tree.isLine(a) || !tree.isLine(b) || a == b) {
            return UNKNOWN;
        }
        return inSet(tree.crossing(a), b) ? 1 : 0;
    }

    public int most(int what) {
        if (what < 0 || what > 2) {
            return OUTSIDE;
        }
        if (tree.count == 0) {
            return STATE;
        }
        if (what == 0) {
            return tree.greatestPressure();
        }
        return what == 1 ? tree.howManyColours() : tree.howManyCross();
    }

    public int next(int v, int l) {
        if (!tree.isLine(v) || !tree.isLine(l)) {
            return UNKNOWN;
        }
        if (!tree.isBelow(l, v)) {
            return STATE;
        }
        return inSet(tree.usedSet[l], v) ? 0 : tree.laterUse(v, l);
    }

    public int hold(int k, int what) {
        if (k < LEAST_PLACES || k > MOST_PLACES || !isHoldQuestion(what)) {
            return OUTSIDE;
        }
        if (tree.count == 0) {
            return STATE;
        }
        holding.goThrough(tree, k);
        switch (what) {
            case 0: return holding.spilled;
            case 1: return holding.fetches;
            case 2: return holding.drops;
            default: return tree.isLine(what - NUMBERED) ? holding.behind[what - NUMBERED] : NONE;
        }
    }

    public int copies(int sheet, int lane, int i, int n, int what) {
        latestFault = NO_FAULT;
        if (!isSheet(sheet)) {
            return UNKNOWN;
        }
        if (!isLane(lane) || n < 0 || n > MOST_COPIES || !isCopiesQuestion(what)) {
            return OUTSIDE;
        }
        int fault = sheets[sheet].faultOfCells(lane, i, n);
        if (fault != NO_FAULT) {
            return faulty(fault);
        }
        if (!moves.areTold(sheets[sheet], i, n)) {
            return OUTSIDE;
        }
        moves.makeAll();
        if (what == 0) {
            return moves.count;
        }
        return what == 1 ? moves.toSpare : moves.inPlace(what - NUMBERED);
    }

    // ---- 4 what it costs

    public int reading(int v, int c) {
        if (!tree.isLine(v)) {
            return UNKNOWN;
        }
        if (c < 0 || c > MOST_COST) {
            return OUTSIDE;
        }
        if (readings.count >= MOST_READINGS) {
            return FULL;
        }
        int number = readings.count;
        readings.take(v, c);
        return number;
    }

    public int back(int n) {
        if (n < 0 || n > readings.count) {
            return OUTSIDE;
        }
        readings.keepOnly(readings.count - n);
        return readings.count;
    }

    public int kinds(int v) {
        if (!tree.isLine(v)) {
            return UNKNOWN;
        }
        trial.becomeLike(tree);
        int set = 0;
        for (int kind = PLAIN; kind <= DOUBLE; kind++) {
            trial.kind[v] = kind;
            if (readings.areSo(trial)) {
                set |= 1 << kind;
            }
        }
        return set;
    }

    public int firsts(int l) {
        if (!tree.isLine(l)) {
            return UNKNOWN;
        }
        if (!tree.hasPlace(l, 0)) {
            return STATE;
        }
        trial.becomeLike(tree);
        int set = 0;
        for (int v = 0; v < tree.count; v++) {
            if (tree.mayUse(l, 0, v)) {
                trial.useInstead(l, 0, v);
                if (readings.areSo(trial)) {
                    set |= 1 << v;
                }
            }
        }
        return set;
    }

    public long odds(int which) {
        if (which < 0 || which > 1 || tree.count < 2) {
            return LOST;
        }
        int upper = tree.howManyCross();
        int lower = tree.count * (tree.count - 1) / 2;
        int shared = greatestShared(upper, lower);
        return which == 0 ? upper / shared : lower / shared;
    }

    // ---- 5 sheets, parts

    public int sheet(int k, int lane, int n) {
        latestFault = NO_FAULT;
        if (!isSheet(k)) {
            return UNKNOWN;
        }
        if (!isLane(lane) || n > MOST_CELLS) {
            return OUTSIDE;
        }
        if (n < 0) {
            return faulty(SIZE);
        }
        sheets[k].getRow(lane, n);
        return 1;
    }

    public int lose(int k) {
        if (!isSheet(k)) {
            return UNKNOWN;
        }
        int had = sheets[k].hasRow ? 1 : 0;
        sheets[k].loseRow();
        return had;
    }

    public int put(int k, int i, int v) {
        latestFault = NO_FAULT;
        if (!isSheet(k)) {
            return UNKNOWN;
        }
        int fault = sheets[k].faultOfCells(sheets[k].lane, i, 1);
        if (fault != NO_FAULT) {
            return faulty(fault);
        }
        sheets[k].write(i, v);
        return 1;
    }

    public long cell(int k, int i, int lane) {
        latestFault = NO_FAULT;
        if (!isSheet(k) || !isLane(lane)) {
            return LOST;
        }
        latestFault = sheets[k].faultOfCells(lane, i, 1);
        return latestFault == NO_FAULT ? sheets[k].read(i) : LOST;
    }

    public int copy(int k, int i, int other, int j, int n) {
        latestFault = NO_FAULT;
        if (!isSheet(k) || !isSheet(other)) {
            return UNKNOWN;
        }
        Sheet from = sheets[k];
        Sheet to = sheets[other];
        if (!from.hasRow || !to.hasRow) {
            return faulty(NULL);
        }
        if (from.lane != to.lane) {
            return faulty(CAST);
        }
        if (!from.hasCells(i, n) || !to.hasCells(j, n)) {
            return faulty(INDEX);
        }
        System.arraycopy(from.cells, i, to.cells, j, n);
        return n;
    }

    public int tell(int v) {
        if (!tree.isLine(v)) {
            return UNKNOWN;
        }
        switch (tree.kind[v]) {
            case DOUBLE: return doubleTelling(v);
            case BULKY: return bulkyTelling(v);
            default: return plainTelling(v);
        }
    }

    public int label(int v) {
        if (!tree.isLine(v)) {
            return UNKNOWN;
        }
        if (tree.kind[v] == DOUBLE) {
            leaveInTrace(DOUBLE_LABEL_BODY);
            return DOUBLE_LABEL;
        }
        leaveInTrace(LENT_LABEL_BODY);
        return v;
    }

    public int as(int v, int kind) {
        latestFault = NO_FAULT;
        if (!tree.isLine(v)) {
            return UNKNOWN;
        }
        if (!isKind(kind)) {
            return OUTSIDE;
        }
        // Each kind is one of all kinds with a lower number, too.
        return kind <= tree.kind[v] ? 1 : faulty(CAST);
    }

    public int trace() {
        return traceSoFar;
    }

    public int fault() {
        return latestFault;
    }

    public int many(int what) {
        switch (what) {
            case 0: return tree.count;
            case 1: return tree.howManyUsedOfAll();
            case 2: return tree.greatestPressure();
            case 3: return tree.howManyColours();
            case 4: return readings.count;
            default: return OUTSIDE;
        }
    }

    // ---- what the calls share

    private static boolean isSheet(int k) {
        return k >= 0 && k < MOST_SHEETS;
    }

    private static boolean isLane(int lane) {
        return lane >= BYTES && lane <= INTS;
    }

    private static boolean isKind(int kind) {
        return kind >= PLAIN && kind <= DOUBLE;
    }

    private static boolean isNumbered(int what, int most) {
        return what >= NUMBERED && what < NUMBERED + most;
    }

    private static boolean isDayQuestion(int what) {
        return (what >= 0 && what <= 4) || isNumbered(what, MOST_LINES);
    }

    private static boolean isHoldQuestion(int what) {
        return (what >= 0 && what <= 2) || isNumbered(what, MOST_LINES);
    }

    private static boolean isCopiesQuestion(int what) {
        return what == 0 || what == 1 || isNumbered(what, MOST_MOVES);
    }

    private static boolean inSet(int set, int number) {
        return ((set >> number) & 1) == 1;
    }

    /** At least 1, so that both may be divided by it; of 0 and b it is b. */
    private static int greatestShared(int a, int b) {
        for (int d = b; d > 1; d--) {
            if (a % d == 0 && b % d == 0) {
                return d;
            }
        }
        return 1;
    }

    private int faulty(int fault) {
        latestFault = fault;
        return FAULT_ANSWER - fault;
    }

    private boolean isLineOrNone(int l) {
        return l == NONE || tree.isLine(l);
    }

    private boolean wouldBeBelow(int above, int v) {
        return v == NONE || v == above || tree.isBelow(above, v);
    }

    /** Does the acts of a DAY on the trial, as far as they can be. */
    private int firstWrong(Sheet sheet, int i, int n) {
        trial.becomeLike(tree);
        for (int act = 0; act < n; act++) {
            int at = i + CELLS_OF_ACT * act;
            int l = sheet.read(at);
            int place = sheet.read(at + 1);
            int v = sheet.read(at + 2);
            if (!trial.mayUse(l, place, v)) {
                return act;
            }
            trial.useInstead(l, place, v);
        }
        return NONE;
    }

    private int ofTrial(int what) {
        switch (what) {
            case 0: return trial.greatestPressure();
            case 2: return trial.howManyColours();
            case 3:
                holding.goThrough(trial, LEAST_PLACES);
                return holding.spilled;
            case 4: return trial.howManyCross();
            default: return trial.isLine(what - NUMBERED) ? trial.colourOf(what - NUMBERED) : NONE;
        }
    }

    private void leaveInTrace(int body) {
        traceSoFar = TRACE_FACTOR * traceSoFar + body;
    }

    private int plainTelling(int v) {
        leaveInTrace(PLAIN_BODY);
        return tree.howManyUse(v);
    }

    private int bulkyTelling(int v) {
        leaveInTrace(BULKY_BODY);
        return plainTelling(v) + BULKY_EXTRA;
    }

    private int doubleTelling(int v) {
        leaveInTrace(DOUBLE_BODY);
        int bulky = bulkyTelling(v);
        return bulky + plainTelling(v);
    }

    /** A row of numbers of a LANE, or nothing. */
    private static final class Sheet {
        final int[] cells = new int[MOST_CELLS];
        boolean hasRow;
        int lane;
        int size;

        void getRow(int newLane, int n) {
            hasRow = true;
            lane = newLane;
            size = Math.max(0, Math.min(n, MOST_CELLS));
            Arrays.fill(cells, 0);
        }

        void loseRow() {
            hasRow = false;
            size = 0;
        }

        /** Written so that no sum can wrap, whatever i and n are. */
        boolean hasCells(int i, int n) {
            return n >= 0 && i >= 0 && n <= size && i <= size - n;
        }

        /** The first FAULT, in the order in which the calls tell them, of n cells from i on. */
        int faultOfCells(int asLane, int i, int n) {
            if (hasRow && lane != asLane) {
                return CAST;
            }
            if (!hasRow) {
                return NULL;
            }
            if (n < 0) {
                return SIZE;
            }
            return hasCells(i, n) ? NO_FAULT : INDEX;
        }

        int read(int i) {
            return hasCells(i, 1) ? cells[i] : 0;
        }

        void write(int i, int v) {
            if (hasCells(i, 1)) {
                cells[i] = cutToLane(v);
            }
        }

        int cutToLane(int v) {
            switch (lane) {
                case BYTES: return (byte) v;
                case SHORTS: return (short) v;
                default: return v;
            }
        }
    }

    /** LINES, each right below another one, and what they USE. */
    private static final class Tree {
        final int[] kind = new int[MOST_LINES];
        final int[] above = new int[MOST_LINES];
        /** Of each LINE, the set of those that it is BELOW. */
        final int[] over = new int[MOST_LINES];
        /** Of each LINE, how many it is BELOW. */
        final int[] depth = new int[MOST_LINES];
        final int[] howManyUsed = new int[MOST_LINES];
        /** The USED ones, MOST_USED places a LINE. */
        final int[] used = new int[MOST_LINES * MOST_USED];
        /** The same as sets, which keeps the loops over LINES plain. */
        final int[] usedSet = new int[MOST_LINES];
        final int[] colour = new int[MOST_LINES];
        int count;

        void becomeLike(Tree other) {
            count = other.count;
            System.arraycopy(other.kind, 0, kind, 0, MOST_LINES);
            System.arraycopy(other.above, 0, above, 0, MOST_LINES);
            System.arraycopy(other.over, 0, over, 0, MOST_LINES);
            System.arraycopy(other.depth, 0, depth, 0, MOST_LINES);
            System.arraycopy(other.howManyUsed, 0, howManyUsed, 0, MOST_LINES);
            System.arraycopy(other.used, 0, used, 0, MOST_LINES * MOST_USED);
            System.arraycopy(other.usedSet, 0, usedSet, 0, MOST_LINES);
        }

        void putOn(int itsKind, int itsAbove) {
            if (count >= MOST_LINES) {
                return;
            }
            boolean isTop = !isLine(itsAbove);
            kind[count] = itsKind;
            above[count] = isTop ? NO_ABOVE : itsAbove;
            over[count] = isTop ? 0 : over[itsAbove] | (1 << itsAbove);
            depth[count] = isTop ? 0 : depth[itsAbove] + 1;
            howManyUsed[count] = 0;
            usedSet[count] = 0;
            count++;
        }

        /** The last LINE USES v as well: whether it can. */
        boolean useToo(int v) {
            int l = count - 1;
            if (!isBelow(l, v) || howManyUsed[l] >= MOST_USED || inSet(usedSet[l], v)) {
                return false;
            }
            used[l * MOST_USED + howManyUsed[l]] = v;
            usedSet[l] |= 1 << v;
            howManyUsed[l]++;
            return true;
        }

        void takeLast() {
            if (count > 0) {
                count--;
            }
        }

        boolean isLine(int l) {
            return l >= 0 && l < count;
        }

        boolean hasPlace(int l, int i) {
            return isLine(l) && i >= 0 && i < howManyUsed[l];
        }

        boolean isBelow(int l, int v) {
            return isLine(l) && isLine(v) && inSet(over[l], v);
        }

        int usedIn(int l, int i) {
            return hasPlace(l, i) ? used[l * MOST_USED + i] : NONE;
        }

        /** Whether the USED one in place i of a LINE can become v. */
        boolean mayUse(int l, int i, int v) {
            return hasPlace(l, i) && isBelow(l, v) && usedIn(l, 1 - i) != v;
        }

        void useInstead(int l, int i, int v) {
            if (mayUse(l, i, v)) {
                usedSet[l] = (usedSet[l] & ~(1 << usedIn(l, i))) | (1 << v);
                used[l * MOST_USED + i] = v;
            }
        }

        int usersOf(int v) {
            int set = 0;
            for (int l = 0; l < count; l++) {
                if (inSet(usedSet[l], v)) {
                    set |= 1 << l;
                }
            }
            return set;
        }

        int howManyUse(int v) {
            return Integer.bitCount(usersOf(v));
        }

        int howManyUsedOfAll() {
            int sum = 0;
            for (int l = 0; l < count; l++) {
                sum += howManyUsed[l];
            }
            return sum;
        }

        int cost(int v) {
            if (!isLine(v)) {
                return 0;
            }
            int plain = howManyUse(v);
            switch (kind[v]) {
                case DOUBLE: return 2 * plain;
                case BULKY: return plain + 1;
                default: return plain;
            }
        }

        /** All that the LINES BELOW a LINE USE. */
        int usedBelow(int l) {
            int set = 0;
            for (int m = 0; m < count; m++) {
                if (inSet(over[m], l)) {
                    set |= usedSet[m];
                }
            }
            return set;
        }

        int liveBehind(int l) {
            return isLine(l) ? (1 << l) | (over[l] & usedBelow(l)) : 0;
        }

        int pressure(int l) {
            return Integer.bitCount(liveBehind(l));
        }

        int greatestPressure() {
            int most = 0;
            for (int l = 0; l < count; l++) {
                most = Math.max(most, pressure(l));
            }
            return most;
        }

        int crossing(int v) {
            int set = 0;
            for (int l = 0; l < count; l++) {
                int live = liveBehind(l);
                if (inSet(live, v)) {
                    set |= live & ~(1 << v);
                }
            }
            return set;
        }

        int howManyCross() {
            int sum = 0;
            for (int v = 0; v < count; v++) {
                sum += Integer.bitCount(crossing(v));
            }
            // Each two was met from both sides.
            return sum / 2;
        }

        int colourOf(int v) {
            giveColours();
            return isLine(v) ? colour[v] : NONE;
        }

        /** The least free colour is always given, so none below the greatest is left out. */
        int howManyColours() {
            giveColours();
            int most = 0;
            for (int l = 0; l < count; l++) {
                most = Math.max(most, colour[l] + 1);
            }
            return most;
        }

        void giveColours() {
            for (int l = 0; l < count; l++) {
                int taken = 0;
                int live = liveBehind(l);
                // The others that are LIVE stand above l, so they have lower numbers.
                for (int v = 0; v < l; v++) {
                    if (inSet(live, v)) {
                        taken |= 1 << colour[v];
                    }
                }
                colour[l] = Integer.numberOfTrailingZeros(~taken);
            }
        }

        /** The fewest LINES down from a LINE (1 or more) to one that USES v; NONE. */
        int laterUse(int v, int l) {
            int fewest = NONE;
            for (int m = 0; m < count; m++) {
                if (inSet(over[m], l) && inSet(usedSet[m], v)) {
                    int down = depth[m] - depth[l];
                    fewest = fewest == NONE ? down : Math.min(fewest, down);
                }
            }
            return fewest;
        }
    }

    /** Reads a TEXT, code by code, into a tree. */
    private static final class TextReader {
        private static final int LETTER_R = 114, LETTER_P = 112, LETTER_B = 98, LETTER_D = 100;
        private static final int SEMICOLON = 59, DASH = 45, DIGIT_0 = 48;
        private static final int AT_START = 0, BEHIND_R = 1, AT_KIND = 2, AT_ABOVE = 3, AT_USED = 4;

        final Tree into;
        int state;
        int kindRead;

        TextReader(Tree tree) {
            into = tree;
        }

        /** NONE, if the cells are a TEXT; the tree has it then. */
        int firstFault(Sheet sheet, int i, int n) {
            state = AT_START;
            into.count = 0;
            for (int place = 0; place < n; place++) {
                if (!goesOnWith(sheet.read(i + place))) {
                    return place;
                }
            }
            return state == AT_USED ? NONE : n;
        }

        boolean goesOnWith(int code) {
            switch (state) {
                case AT_START: return movesTo(BEHIND_R, code == LETTER_R);
                case BEHIND_R: return movesTo(AT_KIND, code == SEMICOLON);
                case AT_KIND: return takesKind(code);
                case AT_ABOVE: return takesAbove(code);
                default: return takesUsed(code);
            }
        }

        boolean movesTo(int newState, boolean fits) {
            if (fits) {
                state = newState;
            }
            return fits;
        }

        boolean takesKind(int code) {
            switch (code) {
                case LETTER_P: kindRead = PLAIN; break;
                case LETTER_B: kindRead = BULKY; break;
                case LETTER_D: kindRead = DOUBLE; break;
                default: return false;
            }
            return movesTo(AT_ABOVE, true);
        }

        boolean takesAbove(int code) {
            boolean isFirst = into.count == 0;
            int line = code - DIGIT_0;
            boolean fits = isFirst ? code == DASH : into.isLine(line);
            if (fits) {
                into.putOn(kindRead, isFirst ? NO_ABOVE : line);
            }
            return movesTo(AT_USED, fits);
        }

        boolean takesUsed(int code) {
            if (code == SEMICOLON) {
                return movesTo(AT_KIND, into.count < MOST_LINES);
            }
            return into.useToo(code - DIGIT_0);
        }
    }

    /** What is HELD behind each LINE with so many PLACES. */
    private static final class Holding {
        /** Above each LATER USE that there is. */
        private static final int NEVER = 1000;

        final int[] behind = new int[MOST_LINES];
        int spilled;
        int fetches;
        int drops;
        int held;

        void goThrough(Tree tree, int k) {
            spilled = 0;
            fetches = 0;
            drops = 0;
            for (int l = 0; l < tree.count; l++) {
                int above = tree.above[l];
                held = tree.isLine(above) ? behind[above] : 0;
                passLine(tree, l, k);
                behind[l] = held;
            }
        }

        void passLine(Tree tree, int l, int k) {
            for (int i = 0; i < tree.howManyUsed[l]; i++) {
                int v = tree.usedIn(l, i);
                if (!inSet(held, v)) {
                    makeRoom(tree, l, k, held & ~tree.usedSet[l]);
                    held |= 1 << v;
                    fetches++;
                }
            }
            held &= tree.usedBelow(l);
            makeRoom(tree, l, k, held);
            held |= 1 << l;
        }

        void makeRoom(Tree tree, int l, int k, int candidates) {
            if (Integer.bitCount(held) < k) {
                return;
            }
            int dropped = NONE;
            int latest = 0;
            for (int v = 0; v < tree.count; v++) {
                if (inSet(candidates, v)) {
                    int later = tree.laterUse(v, l);
                    int rank = later == NONE ? NEVER : later;
                    // Of several alike the greatest number is dropped, so the later one wins.
                    if (rank >= latest) {
                        dropped = v;
                        latest = rank;
                    }
                }
            }
            if (dropped != NONE) {
                dropValue(dropped, latest != NEVER);
            }
        }

        void dropValue(int v, boolean isNeeded) {
            held &= ~(1 << v);
            drops++;
            if (isNeeded) {
                spilled |= 1 << v;
            }
        }
    }

    /** COPIES told all at once, as MOVES one behind another. */
    private static final class Moves {
        /** Of each place, the one from which it is to get something. */
        final int[] wanted = new int[MOST_COPIES];
        final int[] made = new int[MOST_MOVES];
        int places;
        /** The set of places that are still to get something else. */
        int open;
        int count;
        int toSpare;

        /** Whether the cells tell COPIES; they are taken then. */
        boolean areTold(Sheet sheet, int i, int n) {
            places = Math.max(0, Math.min(n, MOST_COPIES));
            open = 0;
            for (int place = 0; place < places; place++) {
                int from = sheet.read(i + place);
                if (from < 0 || from >= places) {
                    return false;
                }
                wanted[place] = from;
                if (from != place) {
                    open |= 1 << place;
                }
            }
            return true;
        }

        void makeAll() {
            count = 0;
            toSpare = 0;
            for (int step = 0; step < MOST_MOVES && open != 0; step++) {
                int free = open & ~allWanted();
                if (free != 0) {
                    fill(Integer.numberOfTrailingZeros(free));
                } else {
                    saveToSpare(Integer.numberOfTrailingZeros(open));
                }
            }
        }

        int allWanted() {
            int set = 0;
            for (int place = 0; place < places; place++) {
                if (inSet(open, place)) {
                    set |= 1 << wanted[place];
                }
            }
            return set;
        }

        void fill(int place) {
            if (place < places) {
                write(place, wanted[place]);
                open &= ~(1 << place);
            }
        }

        void saveToSpare(int place) {
            write(places, place);
            toSpare++;
            for (int other = 0; other < places; other++) {
                if (inSet(open, other) && wanted[other] == place) {
                    wanted[other] = places;
                }
            }
        }

        void write(int to, int from) {
            if (count < MOST_MOVES) {
                made[count] = 10 * to + from;
                count++;
            }
        }

        int inPlace(int j) {
            return j >= 0 && j < count ? made[j] : NONE;
        }
    }

    /** What COST some VALUES are said to have. */
    private static final class Readings {
        final int[] value = new int[MOST_READINGS];
        final int[] cost = new int[MOST_READINGS];
        int count;

        void take(int v, int c) {
            if (count < MOST_READINGS) {
                value[count] = v;
                cost[count] = c;
                count++;
            }
        }

        void keepOnly(int n) {
            if (n >= 0 && n < count) {
                count = n;
            }
        }

        void forget(int v) {
            int kept = 0;
            for (int r = 0; r < count; r++) {
                if (value[r] != v) {
                    value[kept] = value[r];
                    cost[kept] = cost[r];
                    kept++;
                }
            }
            count = kept;
        }

        boolean areSo(Tree tree) {
            for (int r = 0; r < count; r++) {
                if (tree.cost(value[r]) != cost[r]) {
                    return false;
                }
            }
            return true;
        }
    }
}
