/** The calls of the document's face by their places in it. */
final class Faces {
    static final String[] NAMES = {"lines", "ofLine", "used", "reuse", "grow", "cut", "day", "cross", "most", "next",
        "hold", "copies", "reading", "back", "kinds", "firsts", "odds", "sheet", "lose", "put", "cell", "copy", "tell",
        "label", "as", "trace", "fault", "many"};

    private Faces() {
    }

    static long call(ValuePlaces x, int which, int[] a) {
        switch (which) {
            case 0: return x.lines(a[0], a[1], a[2], a[3]);
            case 1: return x.ofLine(a[0], a[1]);
            case 2: return x.used(a[0], a[1]);
            case 3: return x.reuse(a[0], a[1], a[2]);
            case 4: return x.grow(a[0], a[1], a[2], a[3]);
            case 5: return x.cut();
            case 6: return x.day(a[0], a[1], a[2], a[3], a[4]);
            case 7: return x.cross(a[0], a[1]);
            case 8: return x.most(a[0]);
            case 9: return x.next(a[0], a[1]);
            case 10: return x.hold(a[0], a[1]);
            case 11: return x.copies(a[0], a[1], a[2], a[3], a[4]);
            case 12: return x.reading(a[0], a[1]);
            case 13: return x.back(a[0]);
            case 14: return x.kinds(a[0]);
            case 15: return x.firsts(a[0]);
            case 16: return x.odds(a[0]);
            case 17: return x.sheet(a[0], a[1], a[2]);
            case 18: return x.lose(a[0]);
            case 19: return x.put(a[0], a[1], a[2]);
            case 20: return x.cell(a[0], a[1], a[2]);
            case 21: return x.copy(a[0], a[1], a[2], a[3], a[4]);
            case 22: return x.tell(a[0]);
            case 23: return x.label(a[0]);
            case 24: return x.as(a[0], a[1]);
            case 25: return x.trace();
            case 26: return x.fault();
            default: return x.many(a[0]);
        }
    }
}
