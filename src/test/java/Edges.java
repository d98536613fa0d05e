import java.util.function.Supplier;

/** What the tests of all parts of the document say in the same way. */
abstract class Edges {
    private static final Class<? extends RuntimeException> INDEX = IndexOutOfBoundsException.class;
    private static final Class<? extends RuntimeException> ARGUMENT = IllegalArgumentException.class;
    private static final Class<? extends RuntimeException> STATE = IllegalStateException.class;

    private final Sentences sentences;

    Edges(Sentences sentences) {
        this.sentences = sentences;
    }

    /** A call with one number that the test chooses. */
    interface Numbered {
        void on(WellField field, int number);
    }

    abstract void all();

    void section(String title) {
        sentences.section(title);
    }

    void holds(String words, Runnable test) {
        sentences.holds(words, test);
    }

    void tellsNoAnswer(String words) {
        sentences.tellsNoAnswer(words);
    }

    void due(String call, long want, long got) {
        sentences.due(call, want, got);
    }

    void noIndex(String call, Supplier<WellField> made, Sentences.Call body) {
        sentences.refused(INDEX, call, made, body);
    }

    void noArgument(String call, Supplier<WellField> made, Sentences.Call body) {
        sentences.refused(ARGUMENT, call, made, body);
    }

    void noState(String call, Supplier<WellField> made, Sentences.Call body) {
        sentences.refused(STATE, call, made, body);
    }

    static int[] outside(int least, int most) {
        return new int[] {least - 1, most + 1, Integer.MIN_VALUE, Integer.MAX_VALUE};
    }

    /** No index of a range that ends ahead of the count is let through. */
    private void noSuch(String call, Supplier<WellField> made, int count, Numbered body) {
        for (int bad : outside(0, count - 1)) {
            noIndex(call + " with " + bad + " of " + count, made, f -> body.on(f, bad));
        }
    }

    /** Of no wells, of three and of eight. */
    void noSuchWell(String call, Numbered body) {
        noSuch(call, Fields::empty, 0, body);
        noSuch(call, Fields::part, 3, body);
        noSuch(call, Fields::full, 8, body);
        noIndex(call + " with 7 of 3", Fields::part, f -> body.on(f, 7));
    }

    /** Of no watches, of two and of four. */
    void noSuchWatch(String call, Numbered body) {
        noSuch(call, Fields::empty, 0, body);
        noSuch(call, Fields::part, 2, body);
        noSuch(call, Fields::full, 4, body);
        noIndex(call + " with 3 of 2", Fields::part, f -> body.on(f, 3));
    }

    void noSuchMonth(String call, Numbered body) {
        noSuch(call, Fields::full, 36, body);
    }

    void noSuchYear(String call, Numbered body) {
        noSuch(call, Fields::full, 3, body);
    }

    void noSuchZone(String call, Numbered body) {
        noSuch(call, Fields::full, 3, body);
    }

    void noSuchReach(String call, Numbered body) {
        noSuch(call, Fields::full, 5, body);
    }

    void noSuchDelay(String call, Numbered body) {
        noSuch(call, Fields::full, 12, body);
    }

    /** On a field that is not full, so that a range alone can be the reason. */
    void outOfRange(String call, int least, int most, Numbered body) {
        for (int bad : outside(least, most)) {
            noArgument(call + " with " + bad, Fields::part, f -> body.on(f, bad));
        }
    }

    /** A field whose watch 0 is drawn down to just its limit in the month 9, and never beyond it. */
    static WellField drawnToLimit(int limit) {
        WellField f = Fields.wells(0, 10);
        f.watch(0, limit);
        for (int delay = 0; delay < 10; delay++) {
            f.response(0, delay, 1000);
        }
        for (int month = 0; month < 10; month++) {
            f.pump(0, month, Math.max(0, Math.min(1000, limit - 1000 * month)));
        }
        return f;
    }

    /** One thousandth more for the watch 0 of such a field, in the month 9 alone. */
    static void drawByOneMore(WellField f) {
        f.response(1, 0, 1);
        f.pump(1, 9, 1);
    }

    /** A field with the table full of one number. */
    static void fillTable(WellField f, int number) {
        for (int reach = 0; reach < 5; reach++) {
            for (int delay = 0; delay < 12; delay++) {
                f.response(reach, delay, number);
            }
        }
    }

    static void pumpAllMonths(WellField f, int well, int units) {
        for (int month = 0; month < 36; month++) {
            f.pump(well, month, units);
        }
    }
}
