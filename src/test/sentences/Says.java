import java.io.IOException;
import java.nio.charset.StandardCharsets;
import java.nio.file.Files;
import java.nio.file.Path;
import java.util.Map;
import java.util.TreeMap;
import java.util.function.Supplier;

/** What the tests of single sentences share: the sentence is looked up in the document, and what no test says is told. */
final class Says {
    static final int NO_SUM = -1000000000;
    static final int NO_WORTH = -1000000;

    private static final Map<String, String> SECTIONS = new TreeMap<>();
    private static final Map<String, boolean[]> SAID = new TreeMap<>();

    private static int wrong = 0;
    private static int sentences = 0;
    private static int checks = 0;
    private static String now = "";
    private static boolean isDocumentThere = false;

    private Says() {
    }

    /** Parts are I, II, III, IV; promises are 1 to 35. Without the document the answers are looked at alone. */
    static void open(String file) throws IOException {
        isDocumentThere = Files.exists(Path.of(file));
        if (!isDocumentThere) {
            System.out.println("no document at " + file + ": its words are not looked up");
            return;
        }
        String doc = Files.readString(Path.of(file), StandardCharsets.UTF_8);
        String[] parts = {"I", "II", "III", "IV"};
        for (String part : parts) {
            int from = doc.indexOf("==== " + part + ". ");
            int to = Math.min(endOf(doc, from + 5, "==== "), endOf(doc, from + 5, "The constants:"));
            keep(part, doc.substring(from + 7 + part.length(), to));
        }
        for (int n = 1; n <= 35; n++) {
            int from = doc.indexOf("\n", doc.indexOf("## Promise " + n + ":"));
            keep("" + n, doc.substring(from, endOf(doc, from, "## ")));
        }
    }

    private static int endOf(String doc, int from, String what) {
        int at = doc.indexOf(what, from);
        return at < 0 ? doc.length() : at;
    }

    private static void keep(String section, String text) {
        String plain = text.replaceAll("```(text)?", " ").replaceAll("`[^`]*`", " ").replaceAll("\\s+", " ").trim();
        SECTIONS.put(section, plain);
        SAID.put(section, new boolean[plain.length()]);
    }

    /** The test of a sentence, or of the piece of one that stands in the section. */
    static void says(String section, String words, Runnable test) {
        now = section + ": " + words;
        sentences++;
        if (isDocumentThere) {
            lookUp(section, words);
        }
        int before = checks;
        test.run();
        due("something is tested", checks > before, true);
    }

    private static void lookUp(String section, String words) {
        int at = SECTIONS.getOrDefault(section, "").indexOf(words);
        due("the document says so", at >= 0, true);
        for (int i = Math.max(0, at); at >= 0 && i < at + words.length(); i++) {
            SAID.get(section)[i] = true;
        }
    }

    static void due(String call, long got, long want) {
        checks++;
        if (got != want) {
            wrong++;
            System.out.println(now + " | " + call + " answered " + got + ", due is " + want);
        }
    }

    static void due(String call, boolean got, boolean want) {
        due(call, got ? 1 : 0, want ? 1 : 0);
    }

    private static void tellUnsaid() {
        for (String section : SECTIONS.keySet()) {
            String text = SECTIONS.get(section);
            StringBuilder rest = new StringBuilder();
            for (int i = 0; i < text.length(); i++) {
                rest.append(SAID.get(section)[i] ? '~' : text.charAt(i));
            }
            String bare = rest.toString().replaceAll("~+", "~");
            if (bare.matches("(?s).*[A-Za-z0-9].*")) {
                wrong++;
                System.out.println(section + " has words without a test: " + bare);
            }
        }
    }

    static void end() {
        tellUnsaid();
        System.out.println(wrong == 0 ? sentences + " sentences hold, by " + checks + " checks" : wrong + " answers are not as due");
        if (wrong != 0) {
            System.exit(1);
        }
    }

    // ---- what the tests are made of

    interface Call {
        long of(ByThePound x);
    }

    /** Each of the calls, on a new object of its own, is answered so, and all stays as it is. */
    static void refused(Supplier<ByThePound> made, String name, long want, Call... calls) {
        for (int i = 0; i < calls.length; i++) {
            ByThePound x = made.get();
            long before = state(x);
            due(name + " (" + i + ")", calls[i].of(x), want);
            due("all stays behind " + name + " (" + i + ")", state(x) == before, true);
        }
    }

    static long bit(boolean so) {
        return so ? 1 : 0;
    }

    /**
     * Three things, of which maker 0 makes the first two and maker 1 the third (and others that aren't told);
     * two buyers; two offers, of two items and of one; two texts, of which the second is THE TEXT; a gift there and
     * one back; a year; twenty bytes on the tape.
     */
    static ByThePound shop() {
        ByThePound x = small();
        due("thing", x.thing(5, 1, 9, 0), 2);
        due("maker", x.maker(30, 4 | 8 | 512, 1), 1);
        x.buyer(10, 0, 20, 9);
        x.buyer(4, 2, 12, 8);
        x.house(1, 150);
        due("text", read(x, "price 5; wet 2;"), 0);
        due("text", read(x, "price 6; wet 3;"), 1);
        due("by", x.by(1), true);
        x.offer(0, 0);
        due("put", x.put(0, 0, 4, 3), 1);
        due("put", x.put(0, 1, 2, 0), 2);
        x.offer(1, 1);
        due("put", x.put(1, 2, 5, 1), 1);
        x.gift(0, 1, 4);
        x.gift(1, 0, 3);
        due("year", x.year(), 14);
        due("feed", x.feed(0x20202020, 0x20202020, 0x20202020, 0x20202020, 0x20202020), 20);
        return x;
    }

    /** The bytes of s come behind the tape, and nothing else. */
    static void feed(ByThePound x, String s) {
        int had = x.about(7);
        for (int i = 0; i < s.length(); i += 20) {
            int[] w = new int[5];
            for (int j = 0; j < 20; j++) {
                w[j / 4] = w[j / 4] << 8 | (i + j < s.length() ? s.charAt(i + j) : ' ');
            }
            due("feed", x.feed(w[0], w[1], w[2], w[3], w[4]), had + i + 20);
        }
        due("end", x.end(had + s.length()), had + s.length());
    }

    static int read(ByThePound x, String s) {
        feed(x, s);
        return x.text();
    }

    /** The text is told and becomes THE TEXT. */
    static void rule(ByThePound x, String s) {
        int number = read(x, s);
        due("there is a text: " + s, number >= 0, true);
        due("by " + s, x.by(number), true);
    }

    static void faulty(String s, int fault, int place) {
        ByThePound x = new ByThePound();
        due("text " + s, read(x, s), -1);
        due("fault of " + s, x.fault(0), fault);
        due("place in " + s, x.fault(1), place);
    }

    static void faultless(String s) {
        ByThePound x = new ByThePound();
        due("text " + s, read(x, s), 0);
        due("fault of " + s, x.fault(0), 0);
        due("place in " + s, x.fault(1), -1);
    }

    /** Two things (0: 2 to 8 pounds of stuff 1, size 10; 1: 1 to 3 pounds of stuff 0, size 20) and a maker of both, 100 hours, no wage. */
    static ByThePound small() {
        ByThePound x = new ByThePound();
        due("thing", x.thing(10, 2, 8, 1), 0);
        due("thing", x.thing(20, 1, 3, 0), 1);
        due("maker", x.maker(100, 3, 0), 0);
        return x;
    }

    /** small() with a buyer (of one, who wants thing 0, taste 7) and an offer of 6 pounds of thing 0 at a house of 150 percent. */
    static ByThePound sixPounds() {
        ByThePound x = small();
        x.house(1, 150);
        x.buyer(1, 0, 7, 99);
        x.offer(0, 1);
        due("put", x.put(0, 0, 6, 0), 1);
        return x;
    }

    /** A sum's value (at most 9999), as a WORTH in sixPounds(). */
    static void sum(String s, int want) {
        ByThePound x = sixPounds();
        rule(x, "worth " + s + ";");
        due(s, x.worth(0, 0), want);
    }

    /** Whether the item of sixPounds() is barred. */
    static void asked(String s, boolean want) {
        ByThePound x = sixPounds();
        rule(x, "bars " + s + ";");
        due(s, x.of(0, 4), want ? 0 : 1);
    }

    /** All that a trial must leave as it is, as one number. */
    static long state(ByThePound x) {
        long sum = 0;
        for (int what = 0; what <= 13; what++) {
            sum = sum * 31 + x.about(what);
        }
        for (int offer = 0; offer < x.about(3); offer++) {
            for (int what = 0; what <= 6; what++) {
                sum = sum * 31 + x.of(offer, what);
            }
            for (int item = 0; item < x.of(offer, 6); item++) {
                sum = ((sum * 31 + x.of(offer, 10 + item)) * 31 + x.of(offer, 20 + item)) * 31 + x.of(offer, 30 + item);
            }
        }
        for (int maker = 0; maker < x.about(1); maker++) {
            sum = (sum * 31 + x.told(0, maker)) * 31 + x.told(1, maker);
        }
        for (int buyer = 0; buyer < x.about(2); buyer++) {
            sum = (sum * 31 + x.told(2, buyer)) * 31 + x.told(3, buyer);
            for (int what = 100; what < 140; what += 10) {
                sum = sum * 31 + x.about(what + buyer);
            }
        }
        for (int who = 0; who < 8; who++) {
            sum = (sum * 31 + x.net(who)) * 31 + x.round(who);
        }
        return (sum * 31 + x.fault(0)) * 31 + x.fault(1);
    }
}
