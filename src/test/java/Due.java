/** Counts the answers that are not the ones due, and fills sheets for the tests. */
final class Due {
    private final String name;
    private int asked;
    private int wrong;

    Due(String name) {
        this.name = name;
    }

    void is(String call, long got, long want) {
        asked++;
        if (got != want) {
            wrong++;
            System.out.println(name + ": " + call + " answered " + got + ", due is " + want);
        }
    }

    void end() {
        System.out.println(name + ": " + asked + " answers, " + wrong + " not as due");
        if (wrong != 0) {
            System.exit(1);
        }
    }

    /** The sheet gets a row of just these numbers. */
    static void row(ValuePlaces x, int k, int lane, int... numbers) {
        x.sheet(k, lane, numbers.length);
        for (int i = 0; i < numbers.length; i++) {
            x.put(k, i, numbers[i]);
        }
    }

    static int[] codes(String text) {
        int[] codes = new int[text.length()];
        for (int i = 0; i < codes.length; i++) {
            codes[i] = text.charAt(i);
        }
        return codes;
    }

    /** What lines answers of a text, told by sheet 3. */
    static int read(ValuePlaces x, String text) {
        row(x, 3, 0, codes(text));
        return x.lines(3, 0, 0, text.length());
    }

    static ValuePlaces of(String text) {
        ValuePlaces x = new ValuePlaces();
        if (read(x, text) < 0) {
            throw new IllegalStateException("no TEXT: " + text);
        }
        x.lose(3);
        return x;
    }
}
