import java.util.function.IntToLongFunction;

/** Counts the answers that are not the ones due, and fills sheets for the tests. */
final class Due {
    static final int LEAST = Integer.MIN_VALUE, GREATEST = Integer.MAX_VALUE;

    private final String name;
    private int asked;
    private int wrong;
    private int sentences;
    private int askedAhead;
    private String sentence = "";

    Due(String name) {
        this.name = name;
    }

    /**
     * The answers that follow are due by these words of the document: of a promise, or of the Terms (0).
     * SentencesTest looks them up there, so they are told word by word.
     */
    void says(int promise, String words) {
        endSentence();
        sentences++;
        askedAhead = asked;
        sentence = " [" + (promise == 0 ? "Terms" : "Promise " + promise) + ": " + words + "]";
    }

    private void endSentence() {
        if (sentences > 0 && asked == askedAhead) {
            wrong++;
            System.out.println(name + ": nothing is asked of" + sentence);
        }
    }

    void is(String call, long got, long want) {
        asked++;
        if (got != want) {
            wrong++;
            System.out.println(name + ": " + call + " answered " + got + ", due is " + want + sentence);
        }
    }

    /** Each of these numbers, given to the call, is answered alike. */
    void all(String call, IntToLongFunction of, long want, int... numbers) {
        for (int number : numbers) {
            is(call + " of " + number, of.applyAsLong(number), want);
        }
    }

    /** Each of these numbers, given to a call that names FAULTS, is answered alike, and fault() tells the same. */
    void fails(ValuePlaces x, String call, IntToLongFunction of, int fault, int... numbers) {
        for (int number : numbers) {
            is(call + " of " + number, of.applyAsLong(number), -10 - fault);
            is("fault() behind " + call + " of " + number, x.fault(), fault);
        }
    }

    void end() {
        endSentence();
        System.out.println(name + ": " + asked + " answers" + (sentences > 0 ? " by " + sentences + " sentences" : "")
            + ", " + wrong + " not as due");
        if (wrong != 0) {
            System.exit(1);
        }
    }

    /** The sheet gets a row of just these numbers. */
    static void row(ValuePlaces x, int k, int lane, int... numbers) {
        x.sheet(k, lane, numbers.length);
        for (int i = 0; i < numbers.length; i++) {
            x.put(k, i, numbers[i]);
        }
    }

    static int[] codes(String text) {
        int[] codes = new int[text.length()];
        for (int i = 0; i < codes.length; i++) {
            codes[i] = text.charAt(i);
        }
        return codes;
    }

    /** What lines answers of a text, told by sheet 3. */
    static int read(ValuePlaces x, String text) {
        row(x, 3, 0, codes(text));
        return x.lines(3, 0, 0, text.length());
    }

    static ValuePlaces of(String text) {
        ValuePlaces x = new ValuePlaces();
        if (read(x, text) < 0) {
            throw new IllegalStateException("no TEXT: " + text);
        }
        x.lose(3);
        return x;
    }
}
