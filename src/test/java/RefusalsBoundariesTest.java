import java.util.ArrayList;
import java.util.List;
import java.util.function.Function;
import java.util.function.Supplier;
import java.util.function.ToLongFunction;

/**
 * Refused calls: the first refusal that fits, and nothing is changed by it. An object that refused a call is looked at beside
 * one of which it was not asked, from all sides, with new objects for each side, so that none sees more than 512 calls.
 */
public final class RefusalsBoundariesTest extends Sentences {
    private static final int NULL = -11, INDEX = -12, CAST = -13, STORE = -14, SIZE = -15;
    private static final long BAD_LONG = Long.MIN_VALUE + 2;
    private static final int KEPT = -1;

    private static final List<Function<SnowRoad, String>> SIDES = new ArrayList<>();

    public static void main(String[] args) {
        SIDES.add(RefusalsBoundariesTest::counts);
        SIDES.add(RefusalsBoundariesTest::depthsAndLand);
        SIDES.add(RefusalsBoundariesTest::textsByteByByte);
        SIDES.add(RefusalsBoundariesTest::eventsOneByOne);
        for (int s = 0; s < 4; s++) {
            int sheet = s;
            SIDES.add(x -> items(x, sheet));
        }
        textsAndEvents();
        fullOnes();
        emptyOnes();
        looks();
        plans();
        guesses();
        sheets();
        gets();
        copies();
        end("refusals are as told and change nothing", 0, 0);
    }

    /** All that can be full is full; SHEETS 0 to 2 are rows of all forms, 3 is LOST; the latest FINDING is STORE. */
    private static SnowRoad full() {
        SnowRoad x = road("oohcoochooco", "123310004123310004000120", "a3e;l2w;f9e;c1w", "aabfxuvc");
        x.wind(5);
        int[][] events = {{0, 2, 0}, {1, 3, 2}, {2, 4, 3}, {0, 4, 11}, {1, 0, 7}, {2, 8, 6}, {1, 9, 0}, {0, 9, 1}};
        for (int[] e : events) {
            x.event(e[0], e[1], e[2]);
        }
        for (int i = 0; i < 8; i++) {
            x.seen(i, i, x.deep(i, i));
        }
        layAll(x, 0, 0, 2, 0, 1, 2, 0);
        layAll(x, 1, 1, 300, -300, 7);
        layAll(x, 2, 2, MOST);
        x.copy(0, 0, 1, 0, 1);
        return x;
    }

    private static String counts(SnowRoad x) {
        StringBuilder s = new StringBuilder();
        for (int what = 0; what < 8; what++) {
            s.append(x.count(what)).append(' ');
        }
        s.append(x.digest());
        for (int p = 0; p < 4; p++) {
            for (int hour = 0; hour < 24; hour += 3) {
                s.append(' ').append(x.at(hour, p, 0)).append(' ').append(x.at(hour, p, 1)).append(' ').append(x.at(hour, p, 2));
            }
            s.append(' ').append(x.plough(p, 0)).append(' ').append(x.plough(p, 1)).append(' ').append(x.plough(p, 2));
        }
        for (int b = 0; b < 8; b++) {
            s.append(' ').append(x.bus(b)).append(' ').append(x.over(b, 0)).append(' ').append(x.over(b, 1)).append(' ').append(x.chance(3, b, 0));
        }
        return s.append(' ').append(x.wind(1)).append(' ').append(x.forget()).append(' ').append(x.digest()).toString();
    }

    private static String depthsAndLand(SnowRoad x) {
        StringBuilder s = new StringBuilder();
        for (int hour = 0; hour < 24; hour++) {
            s.append(x.fall(hour)).append(':');
            for (int mile = 0; mile < 12; mile++) {
                s.append(x.deep(hour, mile)).append(' ');
            }
        }
        for (int mile = 0; mile < 12; mile++) {
            s.append(x.land(mile)).append(' ').append(x.lie(mile)).append(' ');
        }
        return s.toString();
    }

    private static String textsByteByByte(SnowRoad x) {
        StringBuilder s = new StringBuilder();
        for (int text = 0; text < 4; text++) {
            for (int left = 0; left >= 0;) {
                left = x.undo(text);
                s.append(left).append(' ').append(x.fault(text)).append(' ').append(x.count(0)).append(' ').append(x.count(5)).append(' ');
            }
        }
        return s.toString();
    }

    private static String eventsOneByOne(SnowRoad x) {
        StringBuilder s = new StringBuilder();
        for (int left = 0; left >= 0;) {
            left = x.back();
            s.append(left).append(' ').append(x.digest()).append(' ');
        }
        return s.toString();
    }

    private static String items(SnowRoad x, int s) {
        StringBuilder all = new StringBuilder();
        for (int form = 0; form < 3; form++) {
            for (int i = 0; i < 60; i++) {
                all.append(x.get(s, form, i)).append(' ');
            }
        }
        return all.append(x.lose(s)).toString();
    }

    /** The call is refused so; count(8) is then the finding (or as it was, KEPT), and nothing else has changed. */
    private static void refused(String told, Supplier<SnowRoad> maker, ToLongFunction<SnowRoad> call, long want, int finding) {
        for (int side = 0; side < SIDES.size(); side++) {
            SnowRoad asked = maker.get();
            SnowRoad other = maker.get();
            due(told, call.applyAsLong(asked), want);
            due("count(8) behind " + told, asked.count(8), finding == KEPT ? other.count(8) : finding);
            same("side " + side + " behind " + told, SIDES.get(side).apply(asked), SIDES.get(side).apply(other));
        }
    }

    private static void bad(String told, ToLongFunction<SnowRoad> call) {
        refused(told, RefusalsBoundariesTest::full, call, BAD, KEPT);
        refused(told + " of a new object", SnowRoad::new, call, BAD, KEPT);
    }

    private static void badOfFull(String told, ToLongFunction<SnowRoad> call, long want) {
        refused(told, RefusalsBoundariesTest::full, call, want, KEPT);
    }

    private static void found(String told, ToLongFunction<SnowRoad> call, int want) {
        refused(told, RefusalsBoundariesTest::full, call, want, -10 - want);
    }

    private static void textsAndEvents() {
        sentence(0, "Refusals, the first that fits, in the order told at each act: BAD -2 (a number not as told, no such thing)");
        bad("type(-1, 0)", x -> x.type(-1, 0));
        bad("type(4, 111)", x -> x.type(4, 111));
        bad("type(0, -1)", x -> x.type(0, -1));
        bad("type(1, 256)", x -> x.type(1, 256));
        bad("wipe(-1)", x -> x.wipe(-1));
        bad("wipe(4)", x -> x.wipe(4));
        bad("undo(-1)", x -> x.undo(-1));
        bad("undo(4)", x -> x.undo(4));
        bad("fault(4)", x -> x.fault(4));
        bad("land(12)", x -> x.land(12));
        bad("fall(24)", x -> x.fall(24));
        bad("plough(4, 0)", x -> x.plough(4, 0));
        bad("plough(0, 3)", x -> x.plough(0, 3));
        bad("bus(8)", x -> x.bus(8));
        bad("wind(-1)", x -> x.wind(-1));
        bad("wind(10)", x -> x.wind(10));
        bad("event(3, 0, 0)", x -> x.event(3, 0, 0));
        bad("event(0, 24, 0)", x -> x.event(0, 24, 0));
        bad("event(0, 0, 12)", x -> x.event(0, 0, 12));
        bad("read(-1)", x -> x.read(-1));
        bad("read(4)", x -> x.read(4));
    }

    private static void fullOnes() {
        sentence(0, "FULL -4, other FINDINGS. They change nothing");
        for (int text = 0; text < 4; text++) {
            int t = text;
            badOfFull("type(" + t + ", 97)", x -> x.type(t, 97), FULL);
            badOfFull("type(" + t + ", 0)", x -> x.type(t, 0), FULL);
        }
        badOfFull("event(2, 0, 0)", x -> x.event(2, 0, 0), FULL);
        badOfFull("seen(0, 0, 99)", x -> x.seen(0, 0, 99), FULL);
        badOfFull("read(0)", x -> x.read(0), 0);
    }

    private static void emptyOnes() {
        sentence(0, "NOT -3 (as told)");
        for (int text = 0; text < 4; text++) {
            int t = text;
            refused("undo(" + t + ")", SnowRoad::new, x -> x.undo(t), NOT, KEPT);
        }
        refused("back()", SnowRoad::new, x -> x.back(), NOT, KEPT);
        refused("forget()", SnowRoad::new, x -> x.forget(), 0, KEPT);
        refused("wipe(0)", SnowRoad::new, x -> x.wipe(0), 0, KEPT);
    }

    private static void looks() {
        sentence(0, "They change nothing (FINDINGS but count() 8).");
        bad("deep(24, 0)", x -> x.deep(24, 0));
        bad("deep(0, 12)", x -> x.deep(0, 12));
        bad("at(24, 0, 0)", x -> x.at(24, 0, 0));
        bad("at(0, 4, 0)", x -> x.at(0, 4, 0));
        bad("at(0, 0, 3)", x -> x.at(0, 0, 3));
        bad("rides(24, 0)", x -> x.rides(24, 0));
        bad("rides(0, 8)", x -> x.rides(0, 8));
        bad("snow(24, 0)", x -> x.snow(24, 0));
        bad("snow(0, 2)", x -> x.snow(0, 2));
        bad("over(8, 0)", x -> x.over(8, 0));
        bad("over(0, 2)", x -> x.over(0, 2));
        bad("cleared(4, 0)", x -> x.cleared(4, 0));
        bad("cleared(0, 2)", x -> x.cleared(0, 2));
        bad("deepest(3)", x -> x.deepest(3));
        bad("count(9)", x -> x.count(9));
        bad("count(-1)", x -> x.count(-1));
    }

    private static void plans() {
        bad("begin(4, 0)", x -> x.begin(4, 0));
        bad("begin(0, 2)", x -> x.begin(0, 2));
        bad("hedge(2)", x -> x.hedge(2));
        bad("start(8, 0)", x -> x.start(8, 0));
        bad("start(0, 2)", x -> x.start(0, 2));
        bad("spare(-2)", x -> x.spare(-2));
        bad("spare(2)", x -> x.spare(2));
        sentence(0, "======== 3 BEGIN of a PLOUGH");
        // Plans are looked at, not carried out: what would be is not left behind.
        badOfFull("begin(3, 0)", x -> Math.min(0, x.begin(3, 0)), 0);
        badOfFull("hedge(0)", x -> Math.min(0, x.hedge(0)), 0);
        badOfFull("start(7, 0)", x -> Math.min(NONE, x.start(7, 0)), NONE);
        badOfFull("spare(NONE)", x -> Math.min(NONE, x.spare(NONE)), NONE);
    }

    private static void guesses() {
        sentence(0, "BAD -2 (a number not as told, no such thing), NULL, NOT -3 (as told), FULL -4, other FINDINGS.");
        bad("seen(24, 0, 0)", x -> x.seen(24, 0, 0));
        bad("seen(0, 12, 0)", x -> x.seen(0, 12, 0));
        bad("seen(0, 0, 100)", x -> x.seen(0, 0, 100));
        bad("seen(0, 0, -1)", x -> x.seen(0, 0, -1));
        bad("strengths(4)", x -> x.strengths(4));
        bad("lie(12)", x -> x.lie(12));
        bad("ask(4)", x -> x.ask(4));
        bad("winters(0, 25, 0)", x -> x.winters(0, 25, 0));
        bad("winters(0, 0, 2)", x -> x.winters(0, 0, 2));
        badOfFull("never()", x -> Math.min(0, x.never()), 0);
        badOfFull("strengths(3)", x -> Math.min(0, x.strengths(3)), 0);
        badOfFull("lie(11)", x -> Math.min(0, x.lie(11)), 0);
        badOfFull("ask(3)", x -> Math.min(0, x.ask(3)), 0);
        badOfFull("winters(7, 24, 0)", x -> Math.min(0, x.winters(7, 24, 0)), 0);
        sentence(0, "Where the answer is a long, a refusal -x is the least long and x more.");
        badOfFull("chance(17, 0, 0)", x -> x.chance(17, 0, 0), BAD_LONG);
        badOfFull("chance(-1, 0, 0)", x -> x.chance(-1, 0, 0), BAD_LONG);
        badOfFull("chance(0, 8, 0)", x -> x.chance(0, 8, 0), BAD_LONG);
        badOfFull("chance(0, 0, 2)", x -> x.chance(0, 0, 2), BAD_LONG);
        refused("chance(0, 0, 0)", SnowRoad::new, x -> x.chance(0, 0, 0), BAD_LONG, KEPT);
    }

    private static void sheets() {
        sentence(0, "They change nothing (FINDINGS but count() 8).");
        bad("sheet(4, 0, 1)", x -> x.sheet(4, 0, 1));
        bad("sheet(0, 3, 1)", x -> x.sheet(0, 3, 1));
        bad("sheet(0, 0, 61)", x -> x.sheet(0, 0, 61));
        bad("sheet(0, 3, -1)", x -> x.sheet(0, 3, -1));
        found("sheet(0, 0, -1)", x -> x.sheet(0, 0, -1), SIZE);
        found("sheet(3, 2, the least)", x -> x.sheet(3, 2, LEAST), SIZE);
        bad("lose(4)", x -> x.lose(4));
        found("lose(3)", x -> x.lose(3), NULL);
        bad("lay(4, 0, 0, 1)", x -> x.lay(4, 0, 0, 1));
        bad("lay(0, 3, 0, 1)", x -> x.lay(0, 3, 0, 1));
        found("lay(3, 0, 0, 1)", x -> x.lay(3, 0, 0, 1), NULL);
        found("lay(0, 1, 0, 1)", x -> x.lay(0, 1, 0, 1), CAST);
        found("lay(0, 2, 5, 1)", x -> x.lay(0, 2, 5, 1), CAST);
        found("lay(0, 0, 5, 1)", x -> x.lay(0, 0, 5, 1), INDEX);
        found("lay(0, 0, -1, 1)", x -> x.lay(0, 0, -1, 1), INDEX);
        bad("write(12, 0)", x -> x.write(12, 0));
        bad("write(0, 4)", x -> x.write(0, 4));
        found("write(0, 3)", x -> x.write(0, 3), NULL);
        found("read(3)", x -> x.read(3), NULL);
        refused("lose(0) of a new object", SnowRoad::new, x -> x.lose(0), NULL, 1);
    }

    private static void gets() {
        sentence(0, "FINDINGS (answers -10 less the number; they change nothing but count() 8)");
        badOfFull("get(4, 0, 0)", x -> x.get(4, 0, 0), LEAST);
        badOfFull("get(0, 3, 0)", x -> x.get(0, 3, 0), LEAST);
        refused("get(3, 0, 0)", RefusalsBoundariesTest::full, x -> x.get(3, 0, 0), LEAST, 1);
        refused("get(0, 0, 5)", RefusalsBoundariesTest::full, x -> x.get(0, 0, 5), LEAST, 2);
        refused("get(0, 0, -1)", RefusalsBoundariesTest::full, x -> x.get(0, 0, -1), LEAST, 2);
        refused("get(0, 1, 5)", RefusalsBoundariesTest::full, x -> x.get(0, 1, 5), LEAST, 3);
    }

    private static void copies() {
        bad("copy(4, 0, 0, 0, 1)", x -> x.copy(4, 0, 0, 0, 1));
        bad("copy(0, 0, -1, 0, 1)", x -> x.copy(0, 0, -1, 0, 1));
        bad("copy(3, 0, 4, 0, 1)", x -> x.copy(3, 0, 4, 0, 1));
        found("copy(3, 0, 0, 0, 1)", x -> x.copy(3, 0, 0, 0, 1), NULL);
        found("copy(0, 0, 3, 0, 1)", x -> x.copy(0, 0, 3, 0, 1), NULL);
        found("copy(0, 0, 1, 0, 1)", x -> x.copy(0, 0, 1, 0, 1), STORE);
        found("copy(0, 9, 2, 0, 1)", x -> x.copy(0, 9, 2, 0, 1), STORE);
        found("copy(0, 4, 0, 0, 2)", x -> x.copy(0, 4, 0, 0, 2), INDEX);
        found("copy(0, 0, 0, 4, 2)", x -> x.copy(0, 0, 0, 4, 2), INDEX);
        found("copy(0, -1, 0, 0, 2)", x -> x.copy(0, -1, 0, 0, 2), INDEX);
        found("copy(0, 0, 0, -1, 2)", x -> x.copy(0, 0, 0, -1, 2), INDEX);
        found("copy(0, 0, 0, 1, -1)", x -> x.copy(0, 0, 0, 1, -1), INDEX);
        found("copy(0, 1, 0, 0, the greatest)", x -> x.copy(0, 1, 0, 0, MOST), INDEX);
    }
}
