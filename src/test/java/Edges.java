import java.io.IOException;
import java.nio.file.Files;
import java.nio.file.Path;
import java.util.ArrayList;
import java.util.List;
import java.util.Set;
import java.util.TreeSet;
import java.util.NoSuchElementException;

/**
 * Tests of edges: each stands for one sentence of the document that names a boundary. It names the promise and quotes
 * the sentence; end() sees that the sentence still stands in the document, and that no promise was left out.
 */
class Edges extends Check {
    /** Three HOUSES, four THINGS: one to be tied, one up, one that floats on, one too heavy to. */
    static final String STREET = "house 2;house 5;house 4;thing 0 3 2 10;thing 0 4 5 7;thing 1 1 1 1;thing 2 9 20 40;"
            + "tide 3;tide 8;tide 0;tide 6;find 4 8;find 1 16;rent 1;rope 2;";

    /** Of twelve TIDES the last alone comes in, so in sixty five times; the THING floats by the first two of these. */
    static final String LATE = "house 0;house 0;thing 0 1 9 9;" + "tide 0;".repeat(11) + "tide 9;rent 0;";

    private static final Path DOCUMENT = Path.of("../shared/DOC.md");
    private static final Set<Integer> named = new TreeSet<>();
    private static final List<String> quotes = new ArrayList<>();

    interface Body {
        void run();
    }

    interface Ask {
        int answer(TideLodger x);
    }

    static void edge(int promise, String sentence, Body body) {
        named.add(promise);
        quotes.add(sentence);
        at("Promise " + promise + " (\"" + sentence + "\"): ");
        try {
            body.run();
        } catch (RuntimeException e) {
            fail("threw " + e);
        }
        at("");
    }

    /** An object with something of everything: a LAW, STAINS, WORKS, an IMAGE, a rope that is worn, bags, payments. */
    static TideLodger full() {
        TideLodger x = in(STREET);
        due(1, "law", law(x, "depth + lost * 10 + rent + wet"));
        due(2, "stains", stains(x, "0 6;2 4;"));
        due(4, "work", work(x, "tie 0;lift 1;lift 0;tide;bag 2;"));
        due(1, "image", x.image());
        due(1, "work", work(x, "lower 0;untie 1;tide;"));
        return x;
    }

    /** All that can be seen of an object but its FAULT, its TAPE and what it refused. */
    static int[] look(TideLodger x) {
        List<Integer> row = new ArrayList<>();
        for (int what = 0; what <= 11; what++) {
            row.add(x.told(what));
        }
        for (int house = 0; house < row.get(0); house++) {
            for (int what = 0; what <= 4; what++) {
                row.add(x.house(house, what));
            }
        }
        for (int thing = 0; thing < row.get(1); thing++) {
            for (int what = 0; what <= 6; what++) {
                row.add(x.thing(thing, what));
            }
        }
        for (int find = 0; find < row.get(3); find++) {
            row.add(x.find(find, 0));
            row.add(x.find(find, 1));
        }
        row.add(x.count(0));
        row.add(x.count(2));
        row.add(x.would(9, 2, 3, 4, 5, 1));
        for (int what = 0; what <= 2; what++) {
            row.add(x.in(what));
        }
        row.add(x.board(0));
        row.add(x.ahead(60, 2));
        row.add(x.height(1));
        return row.stream().mapToInt(n -> n).toArray();
    }

    /** Both look alike now, then with a WORK undone, then as in the latest IMAGE, then with one more undone. */
    static void alike(String when, TideLodger x, TideLodger y) {
        alikeNow(when, x, y);
        due(y.undo(), when + ", undo()", x.undo());
        alikeNow(when + ", undone", x, y);
        due(y.restore(), when + ", restore()", x.restore());
        alikeNow(when + ", restored", x, y);
        due(y.undo(), when + ", undo() behind restore()", x.undo());
        due(y.count(0), when + ", IMAGES", x.count(0));
    }

    static void alikeNow(String when, TideLodger x, TideLodger y) {
        int[] got = look(x);
        int[] want = look(y);
        due(want.length, when + ", as much to see", got.length);
        for (int i = 0; i < Math.min(want.length, got.length); i++) {
            due(want[i], when + ", sight " + i, got[i]);
        }
    }

    /** Both look alike, but for how many STEPS were REFUSED by the latest WORK. */
    static void alikeButRefused(String when, TideLodger x, TideLodger y) {
        int[] got = look(x);
        int[] want = look(y);
        due(want.length, when + ", as much to see", got.length);
        for (int i = 0; i < Math.min(want.length, got.length); i++) {
            if (i != 8) {
                due(want[i], when + ", sight " + i, got[i]);
            }
        }
    }

    /** Each of these calls is refused by this exception, is counted, and leaves all as it was. */
    private static void refuses(int promise, String sentence, boolean missing, Ask... asks) {
        edge(promise, sentence, () -> {
            TideLodger x = full();
            TideLodger y = full();
            due(-9, "a FAULT", law(x, "1 +"));
            feed(x, "rope 4;");
            for (int i = 0; i < asks.length; i++) {
                Ask ask = asks[i];
                thrown(missing ? NoSuchElementException.class : IllegalArgumentException.class, "call " + i,
                        () -> ask.answer(x));
            }
            due(missing ? asks.length : 0, "status(0)", x.status(0));
            due(missing ? 0 : asks.length, "status(1)", x.status(1));
            due(3, "fault()", x.fault());
            due(20, "count(1)", x.count(1));
            alike("behind what was refused", x, y);
        });
    }

    static void illegalAsks(int promise, String sentence, Ask... asks) {
        refuses(promise, sentence, false, asks);
    }

    static void missingAsks(int promise, String sentence, Ask... asks) {
        refuses(promise, sentence, true, asks);
    }

    private static int take(TideLodger x, char kind, String text) {
        switch (kind) {
            case 's': return street(x, text);
            case 'l': return law(x, text);
            case 'w': return work(x, text);
            default: return stains(x, text);
        }
    }

    /** A text (s a STREET, l a LAW, w WORK, m STAINS) has this FAULT there, and all but the TAPE stays. */
    static void fault(int kind, int place, char text, String words) {
        TideLodger x = full();
        TideLodger y = full();
        due(kind - 10, text + " " + words, take(x, text, words));
        due(place, "place in " + text + " " + words, x.fault());
        due(0, "the TAPE behind " + words, x.count(1));
        alike("behind " + text + " " + words, x, y);
    }

    /** A text without a FAULT, read by a full object. */
    static TideLodger good(int answer, char text, String words) {
        TideLodger x = full();
        due(answer, text + " " + words, take(x, text, words));
        due(-1, "fault() behind " + words, x.fault());
        due(0, "the TAPE behind " + words, x.count(1));
        return x;
    }

    /** What comes out of a LAW, by depth 60, lost 1, wet 2, TIDE 13, R 4, HOUSE 5. */
    static void lawIs(int due, String words) {
        TideLodger x = new TideLodger();
        due(1, "law " + words, law(x, words));
        due(due, words, x.would(60, 1, 2, 13, 4, 5));
    }

    /** So many TIDES more (up to 1,600, by WORKS of a hundred at most). */
    static void tides(TideLodger x, int many) {
        for (int left = many; left >= 100; left -= 100) {
            due(100, "a hundred TIDES", work(x, "again 10[" + "tide;".repeat(10) + "];"));
        }
        int tens = many % 100 / 10;
        int ones = many % 10;
        if (tens + ones > 0) {
            due(many % 100, "TIDES", work(x, "again " + tens + "[" + "tide;".repeat(10) + "];" + "tide;".repeat(ones)));
        }
    }

    static void row(String call, int[] want, int... got) {
        due(want.length, call + ", how many", got.length);
        for (int i = 0; i < Math.min(want.length, got.length); i++) {
            due(want[i], call + " [" + i + "]", got[i]);
        }
    }

    static int[] of(int... numbers) {
        return numbers;
    }

    private static String folded(String text) {
        return text.replaceAll("\\s+", " ");
    }

    /** All of these promises must have been named, and all that was quoted must stand in the document. */
    static void end(String name, int first, int last) {
        for (int promise = first; promise <= last; promise++) {
            if (!named.contains(promise)) {
                fail("no edge of promise " + promise);
            }
        }
        try {
            String document = folded(Files.readString(DOCUMENT));
            for (String quote : quotes) {
                if (!document.contains(folded(quote))) {
                    fail("not in the document: " + quote);
                }
            }
        } catch (IOException e) {
            System.out.println("the document can't be read, its sentences are not held against it: " + e);
        }
        System.out.println(name + ": " + quotes.size() + " edges");
        end(name);
    }
}
