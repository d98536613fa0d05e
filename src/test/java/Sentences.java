import java.io.IOException;
import java.nio.file.Files;
import java.nio.file.Path;
import java.util.ArrayList;
import java.util.Comparator;
import java.util.LinkedHashMap;
import java.util.List;
import java.util.Map;
import java.util.function.Supplier;

/**
 * Runs one test for each sentence of the document, and prints each sentence that does not hold; at the
 * end it prints what the document says and no test holds, and what a test holds and the document says not.
 */
final class Sentences {
    private static final Path DOCUMENT = Path.of("../shared/DOC.md");

    /** A call of the face whose answer does not matter. */
    interface Call {
        void on(WellField field);
    }

    private record Quote(String section, String words) { }

    private final List<Quote> quotes = new ArrayList<>();
    private String section = "";
    private String firstFault = "";
    private int faults;
    private int answers;
    private int broken;

    void section(String title) {
        section = title;
    }

    void holds(String words, Runnable test) {
        quotes.add(new Quote(section, words));
        firstFault = "";
        faults = 0;
        try {
            test.run();
        } catch (RuntimeException e) {
            fault("the test threw " + e.getClass().getName());
        }
        if (faults > 0) {
            broken++;
            System.out.println(section + ", broken: " + words);
            System.out.println("    " + firstFault + (faults > 1 ? ", and " + (faults - 1) + " more" : ""));
        }
    }

    /** Words that name no answer of a call, so that no test can hold them. */
    void tellsNoAnswer(String words) {
        quotes.add(new Quote(section, words));
    }

    void due(String call, long want, long got) {
        answers++;
        if (got != want) {
            fault(call + " answered " + got + ", due is " + want);
        }
    }

    /** The call is due to throw just this exception, and to leave all that can be read as it was. */
    void refused(Class<? extends RuntimeException> want, String call, Supplier<WellField> made, Call body) {
        answers++;
        WellField asked = made.get();
        WellField emptied = made.get();
        String got = thrown(asked, body);
        if (!got.equals(want.getName())) {
            fault(call + " threw " + got + ", due is " + want.getName());
            return;
        }
        thrown(emptied, body);
        if (!Fields.asked(asked).equals(Fields.asked(made.get()))
                || !Fields.emptied(emptied).equals(Fields.emptied(made.get()))) {
            fault(call + " threw, but changed something");
        }
    }

    private static String thrown(WellField field, Call body) {
        try {
            body.on(field);
        } catch (RuntimeException e) {
            return e.getClass().getName();
        }
        return "nothing";
    }

    private void fault(String what) {
        faults++;
        if (faults == 1) {
            firstFault = what;
        }
    }

    void end() {
        Map<String, String> document = document();
        for (Quote quote : quotes) {
            if (!document.getOrDefault(quote.section(), "").contains(quote.words())) {
                broken++;
                System.out.println(quote.section() + ", the document does not say: " + quote.words());
            }
        }
        for (Map.Entry<String, String> part : document.entrySet()) {
            String left = leftOf(part.getKey(), part.getValue());
            if (needsTests(part.getKey()) && !left.isEmpty()) {
                broken++;
                System.out.println(part.getKey() + ", no test holds: " + left);
            }
        }
        System.out.println(quotes.size() + " sentences, " + answers + " answers looked at, "
                + broken + " sentences broken");
        if (broken != 0) {
            System.exit(1);
        }
    }

    private static boolean needsTests(String title) {
        return !title.equals("Not promised");
    }

    /** What stays of a part of the document without what is quoted of it, and without bare signs. */
    private String leftOf(String title, String text) {
        List<String> words = new ArrayList<>();
        for (Quote quote : quotes) {
            if (quote.section().equals(title)) {
                words.add(quote.words());
            }
        }
        // The longest first, as a short one may stand inside a longer one.
        words.sort(Comparator.comparingInt(String::length).reversed());
        String left = text;
        for (String quoted : words) {
            int at = left.indexOf(quoted);
            left = at < 0 ? left : left.substring(0, at) + "\n" + left.substring(at + quoted.length());
        }
        return left.replaceAll("[-\\s;:.,]*\n[-\\s;:.,]*", " ").strip();
    }

    /** The document's parts by their titles, each as one line. */
    private static Map<String, String> document() {
        Map<String, String> parts = new LinkedHashMap<>();
        String text;
        try {
            text = Files.readString(DOCUMENT);
        } catch (IOException e) {
            System.out.println("can't read " + DOCUMENT);
            return parts;
        }
        for (String part : text.split("(?m)^## ")) {
            int end = part.indexOf('\n');
            if (end > 0) {
                parts.put(part.substring(0, end).strip(), part.substring(end).strip().replaceAll("\\s+", " "));
            }
        }
        return parts;
    }
}
