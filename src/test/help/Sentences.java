import java.io.IOException;
import java.nio.file.Files;
import java.nio.file.Path;
import java.util.Set;
import java.util.TreeSet;

/** What the tests of single sentences share: the sentence that is tested, the answers that are due, and roads. */
abstract class Sentences {
    static final int NONE = SnowRoad.NONE, BAD = SnowRoad.BAD, NOT = SnowRoad.NOT, FULL = SnowRoad.FULL;
    static final String HEDGES = "hhhhhhhhhhhh";
    static final int LEAST = Integer.MIN_VALUE;
    static final int MOST = Integer.MAX_VALUE;
    /** Numbers that no act takes as a place, a kind or a choice. */
    static final int[] FAR = {LEAST, LEAST + 1, -65536, -2, 65536, MOST - 1, MOST};

    private static final Path DOCUMENT = Path.of("../shared/DOC.md");
    private static final String FIRST_HEADING = "## Promise 1:";

    private static final Set<Integer> named = new TreeSet<>();
    private static int promise = 0;
    private static String words = "";
    private static int wrong = 0;

    /** The words that the next answers test, of a promise, or (promise 0) of what stands ahead of all promises. */
    static void sentence(int ofPromise, String itsWords) {
        promise = ofPromise;
        words = itsWords;
        named.add(promise);
        if (!section(promise).contains(plain(itsWords))) {
            fail("the document does not say this there");
        }
    }

    static void due(String call, long got, long want) {
        if (got != want) {
            fail(call + " answered " + got + ", due is " + want);
        }
    }

    static void same(String call, String got, String want) {
        if (!got.equals(want)) {
            fail(call + " answered " + got + ", due is " + want);
        }
    }

    static void fail(String told) {
        wrong++;
        System.out.println((promise == 0 ? "terms" : "promise " + promise) + ", \"" + words + "\": " + told);
    }

    /** Says how it went; a promise of these without a sentence is a fault too. */
    static void end(String told, int first, int last) {
        for (int p = first; p <= last; p++) {
            if (!named.contains(p)) {
                wrong++;
                System.out.println("promise " + p + ": no sentence is tested");
            }
        }
        System.out.println(wrong == 0 ? told : wrong + " answers are not as due");
        if (wrong != 0) {
            System.exit(1);
        }
    }

    private static String section(int ofPromise) {
        String all = document();
        if (ofPromise == 0) {
            return plain(all.substring(0, all.indexOf(FIRST_HEADING)));
        }
        int start = all.indexOf("## Promise " + ofPromise + ":");
        int end = all.indexOf("\n## ", start + 1);
        return start < 0 ? "" : plain(all.substring(start, end < 0 ? all.length() : end));
    }

    private static String document() {
        try {
            return Files.readString(DOCUMENT);
        } catch (IOException gone) {
            throw new IllegalStateException("the document cannot be read", gone);
        }
    }

    private static String plain(String text) {
        return text.replaceAll("\\s+", " ");
    }

    static void tell(SnowRoad x, int text, String bytes) {
        for (int i = 0; i < bytes.length(); i++) {
            x.type(text, bytes.charAt(i));
        }
    }

    static SnowRoad road(String land, String fall, String ploughs, String buses) {
        SnowRoad x = new SnowRoad();
        tell(x, 0, land);
        tell(x, 1, fall);
        tell(x, 2, ploughs);
        tell(x, 3, buses);
        return x;
    }

    /** A text of so many HOURS without snow, and then what falls. */
    static String later(int hours, String fall) {
        return "0".repeat(hours) + fall;
    }

    static void layAll(SnowRoad x, int s, int form, int... items) {
        x.sheet(s, form, items.length);
        for (int i = 0; i < items.length; i++) {
            x.lay(s, form, i, items[i]);
        }
    }

    static void row(SnowRoad x, int s, int form, int... want) {
        for (int i = 0; i < want.length; i++) {
            due("get(" + s + ", " + form + ", " + i + ")", x.get(s, form, i), want[i]);
        }
    }

    static void depths(SnowRoad x, int hour, int firstMile, int... want) {
        for (int i = 0; i < want.length; i++) {
            due("deep(" + hour + ", " + (firstMile + i) + ")", x.deep(hour, firstMile + i), want[i]);
        }
    }
}
