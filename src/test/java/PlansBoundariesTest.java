import java.util.function.IntToLongFunction;

/** Plans, what was seen, chances and winters (promises 23 to 34): each sentence that names an edge, by a test of its own. */
public final class PlansBoundariesTest extends Sentences {
    /** A plough that comes to MILE 0 in HOUR 12, snow in HOUR 13, and a bus: over in HOUR 23, and no sooner. */
    private static final String JUST = "j9e";

    public static void main(String[] args) {
        beginAtTheEnds();
        beginOfLikeOnes();
        beginCalls();
        hedges();
        hedgeCalls();
        starts();
        startCalls();
        spareNone();
        spareOne();
        spareTwo();
        spareCalls();
        eightSeen();
        seenDepths();
        forgets();
        nevers();
        strengths();
        lies();
        asks();
        asksOfTheEnds();
        askCalls();
        chancesOfNone();
        chancesInLowestTerms();
        chanceCalls();
        lots();
        wintersOfAnyLength();
        winterCalls();
        end("plans, chances and winters hold at their edges", 23, 34);
    }

    private static void bad(String call, IntToLongFunction of, int end) {
        due(call + " of -1", of.applyAsLong(-1), BAD);
        due(call + " of " + end, of.applyAsLong(end), BAD);
        for (int far : FAR) {
            due(call + " of " + far, of.applyAsLong(far), BAD);
        }
    }

    private static SnowRoad just(String ploughs) {
        return road(HEDGES, later(13, "5"), ploughs, "n");
    }

    private static void beginAtTheEnds() {
        sentence(0, "BEGIN of a PLOUGH: the MILE, in place of its own, by which most BUSES are OVER by HOUR 23");
        due("over in the last hour", just(JUST).over(0, 0), 23);
        for (char own = 'a'; own <= 'l'; own++) {
            SnowRoad x = just(own + "9e");
            due("begin(0, 0)", x.begin(0, 0), 9);
            due("begin(0, 1)", x.begin(0, 1), 1);
            due("its own stays", x.plough(0, 0), own - 'a');
            due("its own stays", x.count(6), own == 'j' ? 1 : 0);
        }
        SnowRoad tooLate = road(HEDGES, later(14, "5"), JUST, "o");
        due("none by hour 23", tooLate.begin(0, 0), 0);
        due("none by hour 23", tooLate.begin(0, 1), 0);
        // Westward from mile 11 alone it is at mile 0 when the snow comes.
        SnowRoad last = road(HEDGES, later(11, "5"), "c9w", "llllllll");
        due("the last mile", last.begin(0, 0), 11);
        due("all eight", last.begin(0, 1), 8);
        SnowRoad beyond = road(HEDGES, later(12, "5"), "c9w", "m");
        due("it would have to begin behind the last mile", beyond.begin(0, 0), 0);
        due("it would have to begin behind the last mile", beyond.begin(0, 1), 0);
        SnowRoad fourth = road(HEDGES, later(11, "5"), "a1e;a1e;a1e;c9w", "l");
        due("the fourth plough", fourth.begin(3, 1), 1);
    }

    private static void beginOfLikeOnes() {
        sentence(0, "by which most BUSES are OVER by HOUR 23, of like ones the least: which; how many.");
        due("no buses", road("", "", "e1e", "").begin(0, 0), 0);
        due("no buses", road("", "", "e1e", "").begin(0, 1), 0);
        due("all by each", road("", "", "e1e", "ab").begin(0, 0), 0);
        due("all by each", road("", "", "e1e", "ab").begin(0, 1), 2);
        due("none by any", road(HEDGES, "9".repeat(24), "e1e", "a").begin(0, 0), 0);
        String[][] roads = {{"oohcoochooco", "123310004", "a3e;l2w;f9e", "aabfx"}, {"oocohhohoocc", "4003", "i2w;a2e", "qqh"},
            {"", "7", "a1e", "aceg"}, {"chchch", "0505", "f2e;f2w", "abcdefgh"}};
        for (String[] one : roads) {
            SnowRoad x = road(one[0], one[1], one[2], one[3]);
            for (int p = 0; p < x.count(0); p++) {
                int which = 0;
                int most = -1;
                for (int mile = 0; mile < 12; mile++) {
                    StringBuilder ploughs = new StringBuilder(one[2]);
                    ploughs.setCharAt(4 * p, (char) ('a' + mile));
                    int over = road(one[0], one[1], ploughs.toString(), one[3]).count(6);
                    which = over > most ? mile : which;
                    most = Math.max(over, most);
                }
                due("begin(" + p + ", 0) of \"" + one[2] + "\"", x.begin(p, 0), which);
                due("begin(" + p + ", 1) of \"" + one[2] + "\"", x.begin(p, 1), most);
            }
        }
    }

    private static void beginCalls() {
        sentence(23, "BEGIN: which (what = 0), how many (1). BAD.");
        SnowRoad x = just("a1e;j9e");
        due("begin(1, 1)", x.begin(1, 1), 1);
        bad("begin", plough -> x.begin(plough, 0), 2);
        bad("begin", what -> x.begin(0, what), 2);
        due("of no ploughs", new SnowRoad().begin(0, 0), BAD);
    }

    private static void hedgeIs(SnowRoad x, int which, int howMuch) {
        due("hedge(0)", x.hedge(0), which);
        due("hedge(1)", x.hedge(1), howMuch);
    }

    private static void hedges() {
        sentence(0, "HEDGE: the MILE that had better be h, in place of what is told, so that there is least SNOW behind HOUR 23, of like ones the least: "
            + "which; how much.");
        hedgeIs(new SnowRoad(), 0, 0);
        hedgeIs(road(HEDGES, "9", "", ""), 0, 108);
        hedgeIs(road("hhhhhhhhhhhc", "1", "", ""), 11, 12);
        hedgeIs(road("chhhhhhhhhhh", "1", "", ""), 0, 12);
        hedgeIs(road("hhhhhhhhhhcc", "1", "", ""), 10, 13);
        String[][] roads = {{"oohcoochooco", "123310004", "a3e;l2w;f9e"}, {"", "7", ""}, {"oocohhohoocc", "4003", "i2w;a2e"}, {"!", "99999", "l1e"}};
        for (String[] one : roads) {
            String land = one[0].equals("!") ? "oooooooooooo" : (one[0] + "oooooooooooo").substring(0, 12);
            int which = 0;
            int least = MOST;
            for (int mile = 0; mile < 12; mile++) {
                StringBuilder hedged = new StringBuilder(land);
                hedged.setCharAt(mile, 'h');
                int snow = road(hedged.toString(), one[1], one[2], "").snow(23, 0);
                which = snow < least ? mile : which;
                least = Math.min(snow, least);
            }
            hedgeIs(road(one[0], one[1], one[2], ""), which, least);
        }
    }

    private static void hedgeCalls() {
        sentence(24, "HEDGE: which (what = 0), how much (1). BAD.");
        SnowRoad x = road("hhhhhhhhhhhc", "1", "", "");
        bad("hedge", what -> x.hedge(what), 2);
        hedgeIs(x, 11, 12);
        due("what is told stays", x.land(11), 2);
        due("what is told stays", x.count(5), 13);
    }

    private static void startIs(SnowRoad x, int bus, int which, int when) {
        due("start(" + bus + ", 0)", x.start(bus, 0), which);
        due("start(" + bus + ", 1)", x.start(bus, 1), when);
    }

    /** A plough that is broken in the first of the HOURS, and then clears a mile in each. */
    private static SnowRoad brokenUntil(int end, String buses) {
        SnowRoad x = road(HEDGES, "5", "a9e", buses);
        for (int hour = 0; hour + 1 < end; hour += 2) {
            x.event(1, hour, 0);
        }
        if (end % 2 == 1) {
            x.event(1, Math.max(0, end - 2), 0);
        }
        return x;
    }

    private static void starts() {
        sentence(0, "START of a BUS: the HOUR, in place of its own, by which it is OVER soonest, of like ones the least: which; when; NONE: by none.");
        startIs(road("", "", "", "x"), 0, 0, 3);
        startIs(road(HEDGES, "5", "a9e", "x"), 0, 0, 10);
        startIs(road(HEDGES, "5", "", "a"), 0, NONE, NONE);
        startIs(brokenUntil(13, "x"), 0, 0, 23);
        startIs(brokenUntil(14, "x"), 0, NONE, NONE);
        SnowRoad eight = road("", "", "", "abcdefgx");
        for (int b = 0; b < 8; b++) {
            startIs(eight, b, 0, 3);
        }
        due("its own stays", eight.bus(7), 23);
        due("its own stays", eight.over(7, 0), NONE);
    }

    private static void startCalls() {
        sentence(25, "START: which (what = 0), when (1); NONE. BAD.");
        SnowRoad x = road("", "", "", "ax");
        bad("start", bus -> x.start(bus, 0), 2);
        bad("start", what -> x.start(0, what), 2);
        due("of no buses", new SnowRoad().start(0, 0), BAD);
        startIs(road(HEDGES, "5", "", "ax"), 1, NONE, NONE);
    }

    private static void spareIs(SnowRoad x, int howMany, int first, int second) {
        due("spare(NONE)", x.spare(NONE), howMany);
        due("spare(0)", x.spare(0), first);
        due("spare(1)", x.spare(1), second);
    }

    private static void spareNone() {
        sentence(0, "SPARE: the fewest EVENTS (0 to 2) that had better not be, so that all BUSES are OVER");
        spareIs(new SnowRoad(), 0, NONE, NONE);
        spareIs(road("", "", "", "abu"), 0, NONE, NONE);
        spareIs(road("", "", "", "abv"), NONE, NONE, NONE);
        SnowRoad noBuses = road(HEDGES, "9", "", "");
        noBuses.event(0, 0, 0);
        spareIs(noBuses, 0, NONE, NONE);
        SnowRoad shut = road(HEDGES, "5", "", "a");
        for (int i = 0; i < 8; i++) {
            shut.event(0, 0, 0);
        }
        spareIs(shut, NONE, NONE, NONE);
        SnowRoad needed = road("hchhhhhhhhhh", "4", "", "a");
        needed.event(2, 0, 1);
        spareIs(needed, 0, NONE, NONE);
        spareIs(brokenUntil(13, "a"), 0, NONE, NONE);
    }

    /** Just in time, were it not for those events that are told as 1; those told as 0 change nothing. */
    private static SnowRoad hindered(String events) {
        SnowRoad x = just(JUST);
        for (char c : events.toCharArray()) {
            x.event(c == '1' ? 1 : 2, 2, 0);
        }
        return x;
    }

    private static void spareOne() {
        sentence(0, "of like ones the least row (each more than the one ahead): how many; the i-th; NONE.");
        spareIs(hindered("00000000"), 0, NONE, NONE);
        for (int e = 0; e < 8; e++) {
            StringBuilder events = new StringBuilder("00000000");
            events.setCharAt(e, '1');
            spareIs(hindered(events.toString()), 1, e, NONE);
        }
        spareIs(brokenUntil(14, "a"), 1, 0, NONE);
        SnowRoad later = just(JUST);
        later.event(2, 0, 0);
        later.event(1, 20, 0);
        spareIs(later, 1, 1, NONE);
    }

    private static void spareTwo() {
        sentence(0, "the fewest EVENTS (0 to 2) that had better not be, so that all BUSES are OVER, of like ones the least row");
        for (int e = 0; e < 8; e++) {
            for (int f = e + 1; f < 8; f++) {
                StringBuilder events = new StringBuilder("00000000");
                events.setCharAt(e, '1');
                events.setCharAt(f, '1');
                spareIs(hindered(events.toString()), 2, e, f);
            }
        }
        spareIs(hindered("111"), NONE, NONE, NONE);
        spareIs(hindered("10100001"), NONE, NONE, NONE);
        spareIs(brokenUntil(16, "a"), 2, 0, 1);
        SnowRoad one = brokenUntil(12, "a");
        one.event(2, 0, 0);
        one.event(1, 22, 0);
        spareIs(one, 1, 0, NONE);
        due("events are as they were", one.count(4), 8);
    }

    private static void spareCalls() {
        sentence(26, "SPARE: how many (i = NONE), the i-th (0, 1; NONE); NONE. BAD.");
        for (SnowRoad x : new SnowRoad[] {new SnowRoad(), hindered("11"), hindered("111")}) {
            due("spare(-2)", x.spare(-2), BAD);
            due("spare(2)", x.spare(2), BAD);
            for (int far : FAR) {
                due("spare(" + far + ")", x.spare(far), BAD);
            }
        }
    }

    private static void eightSeen() {
        sentence(27, "SEEN more: how many. BAD; FULL.");
        SnowRoad x = new SnowRoad();
        for (int i = 1; i <= 8; i++) {
            due("seen", x.seen(0, 0, 0), i);
        }
        long before = x.digest();
        due("a ninth", x.seen(0, 0, 1), FULL);
        due("BAD is ahead of FULL", x.seen(24, 0, 0), BAD);
        due("BAD is ahead of FULL", x.seen(0, 12, 0), BAD);
        due("BAD is ahead of FULL", x.seen(0, 0, 100), BAD);
        due("nothing has changed", x.digest(), before);
        due("lie(0)", x.lie(0), 7);
        sentence(0, "SEEN, 8 at most: behind an HOUR a MILE was so deep (0 to 99).");
        SnowRoad y = new SnowRoad();
        bad("seen", hour -> y.seen(hour, 0, 0), 24);
        bad("seen", mile -> y.seen(0, mile, 0), 12);
        bad("seen", depth -> y.seen(0, 0, depth), 100);
        due("count(7)", y.count(7), 0);
        due("the greatest numbers", y.seen(23, 11, 99), 1);
        due("the least numbers", y.seen(0, 0, 0), 2);
    }

    private static void seenDepths() {
        sentence(27, "SEEN more");
        SnowRoad x = road(HEDGES, "9".repeat(12), "", "");
        x.seen(10, 5, 99);
        due("99 deep", x.lie(5), 2);
        x.seen(11, 5, 99);
        due("108 deep", x.lie(5), 0);
        SnowRoad eighth = road(HEDGES, "3", "", "");
        for (int i = 0; i < 7; i++) {
            eighth.seen(i, 4, 3);
        }
        due("seven fit", eighth.lie(4), 2);
        eighth.seen(23, 4, 4);
        due("the eighth does not", eighth.lie(4), 0);
    }

    private static void forgets() {
        sentence(28, "All SEEN are forgotten: how many.");
        SnowRoad x = new SnowRoad();
        due("none", x.forget(), 0);
        for (int had = 1; had <= 8; had++) {
            for (int i = 0; i < had; i++) {
                x.seen(0, 0, 9);
            }
            due("lie(0)", x.lie(0), 0);
            due("forget()", x.forget(), had);
            due("lie(0)", x.lie(0), 7);
            due("count(7)", x.count(7), 0);
        }
        due("none again", x.forget(), 0);
        due("from 1 on again", x.seen(0, 0, 0), 1);
    }

    private static void nevers() {
        sentence(0, "NEVER: EVENTS each of which, had it alone not been, makes all that was SEEN come out so, as bits.");
        SnowRoad none = new SnowRoad();
        due("no events", none.never(), 0);
        none.seen(0, 0, 0);
        due("no events, though all fits", none.never(), 0);
        sentence(29, "NEVER, as bits.");
        for (int events = 1; events <= 8; events++) {
            SnowRoad x = road(HEDGES, "8", "", "");
            for (int e = 0; e < events; e++) {
                x.event(2, 0, e);
            }
            due("nothing seen", x.never(), (1 << events) - 1);
            x.seen(0, events - 1, 8);
            due("the last alone", x.never(), 1 << events - 1);
            x.seen(0, 11, 8);
            due("and what comes out anyhow", x.never(), 1 << events - 1);
            x.seen(0, events == 1 ? 10 : 0, events == 1 ? 7 : 8);
            due("no one alone", x.never(), 0);
        }
        SnowRoad asTold = road(HEDGES, "8", "", "");
        asTold.event(2, 0, 0);
        asTold.seen(0, 0, 4);
        due("it fits as told, and not without", asTold.never(), 0);
        due("events are as they were", asTold.count(4), 1);
        due("events are as they were", asTold.deep(0, 0), 4);
    }

    /** Behind three HOURS in which it is broken a plough looks at a MILE that is 28 deep: too deep for any. */
    private static SnowRoad facingTooMuch(int strength) {
        SnowRoad x = road(HEDGES, "7777", "a" + strength + "e", "");
        x.event(1, 0, 0);
        x.event(1, 1, 0);
        return x;
    }

    private static void strengths() {
        sentence(0, "STRENGTHS of a PLOUGH: 1 to 9, in place of its own, likewise, as bits (bit 1 on).");
        for (int own = 1; own <= 9; own++) {
            SnowRoad x = facingTooMuch(own);
            due("nothing seen", x.strengths(0), 1022);
            for (int strength = 0; strength <= 10; strength++) {
                x.seen(3, 1, 28 - strength);
                due("it cleared " + strength, x.strengths(0), strength == 0 || strength == 10 ? 0 : 1 << strength);
                x.forget();
            }
            due("its own stays", x.plough(0, 1), own);
            due("its own stays", x.deep(3, 1), 28 - own);
        }
        sentence(30, "STRENGTHS, as bits. BAD.");
        SnowRoad x = road(HEDGES, "7", "a1e;a1e;a1e;f1e", "");
        bad("strengths", plough -> x.strengths(plough), 4);
        x.seen(0, 6, 6);
        due("of the fourth", x.strengths(3), 2);
        due("of one that does not matter", x.strengths(0), 1022);
        due("of no ploughs", new SnowRoad().strengths(0), BAD);
    }

    private static void lies() {
        sentence(0, "LIE of a MILE: 0 o, 1 h, 2 c, in place of its own, likewise, as bits.");
        for (int mile = 0; mile < 12; mile++) {
            SnowRoad x = road(HEDGES, "3", "", "");
            due("nothing seen", x.lie(mile), 7);
            int[] bits = {0, 1, 0, 2, 4, 0};
            for (int depth = 0; depth < bits.length; depth++) {
                x.seen(0, mile, depth);
                due("lie(" + mile + ") of " + depth, x.lie(mile), bits[depth]);
                x.forget();
            }
            due("its own stays", x.land(mile), 1);
            due("its own stays", x.snow(0, 0), 36);
        }
        sentence(31, "LIE, as bits. BAD.");
        SnowRoad x = new SnowRoad();
        bad("lie", mile -> x.lie(mile), 12);
        due("no snow: any", x.lie(11), 7);
        x.seen(23, 11, 1);
        due("no snow: none", x.lie(11), 0);
    }

    private static void asks() {
        sentence(0, "ASK of a PLOUGH: the HOUR behind which the greatest number of those of STRENGTHS by which all MILES are as deep is least, "
            + "of like ones the least.");
        due("all alike in all hours", road("", "", "a1e", "").ask(0), 0);
        due("in the last hour alone", road(HEDGES, later(23, "9"), "a1e", "").ask(0), 23);
        due("in two hours alike", road(HEDGES, later(22, "9"), "a1e", "").ask(0), 22);
        due("in the first hour on", road(HEDGES, "9", "a1e", "").ask(0), 0);
        SnowRoad x = facingTooMuch(5);
        due("no two alike", x.ask(0), 3);
        x.seen(3, 1, 20);
        due("one strength is left", x.strengths(0), 1 << 8);
        due("one strength is left", x.ask(0), 0);
        x.seen(3, 1, 21);
        due("none is left", x.strengths(0), 0);
        due("none is left", x.ask(0), 0);
        // At 7 deep 1 and 2 stick; in hour 5, at 16 deep, 3 to 5 do; what was seen tells which of them count.
        SnowRoad few = road(HEDGES, "700009", "a1e", "");
        due("those that go on are fewest", few.ask(0), 5);
        few.seen(0, 1, 0);
        due("1 and 2 are out", few.strengths(0), 1016);
        due("of the others likewise", few.ask(0), 5);
        few.seen(5, 6, 0);
        due("6 to 9 are left", few.strengths(0), 960);
        due("those are alike in all hours", few.ask(0), 0);
    }

    private static void asksOfTheEnds() {
        sentence(0, "the greatest number of those of STRENGTHS by which all MILES are as deep is least");
        due("in mile 0 alone", road(HEDGES, "9", "b1w", "").ask(0), 0);
        SnowRoad eleven = road(HEDGES, later(9, "9"), "b1e", "");
        due("in mile 11 alone", eleven.ask(0), 9);
        // Broken in hours 0 and 1; at 9 deep 1 and 2 stick, so that mile 2 is cleared later.
        SnowRoad weak = road(HEDGES, "9", "a1e", "");
        weak.event(1, 0, 0);
        weak.seen(3, 2, 9);
        due("1 and 2 are left", weak.strengths(0), 6);
        due("1 and 2 differ", weak.ask(0), 2);
        // Broken in hours 0 to 2; at 24 deep 8 and 9 go on, at 27 deep 9 alone.
        SnowRoad strong = road(HEDGES, "66663", "a1e", "");
        strong.event(1, 0, 0);
        strong.event(1, 1, 0);
        strong.seen(3, 1, 0);
        due("8 and 9 are left", strong.strengths(0), 768);
        due("8 and 9 differ", strong.ask(0), 4);
    }

    private static void askCalls() {
        sentence(32, "ASK. BAD.");
        SnowRoad x = road(HEDGES, later(23, "9"), "a1e;a1e;a1e;f1e", "");
        due("ask(3)", x.ask(3), 23);
        bad("ask", plough -> x.ask(plough), 4);
        due("of no ploughs", new SnowRoad().ask(0), BAD);
    }

    private static void chanceIs(SnowRoad x, int c, int bus, long above, long below) {
        due("chance(" + c + ", " + bus + ", 0)", x.chance(c, bus, 0), above);
        due("chance(" + c + ", " + bus + ", 1)", x.chance(c, bus, 1), below);
    }

    private static void chancesOfNone() {
        sentence(0, "CHANCE: each of EVENTS is by c sixteenths (0 to 16), by itself: the chance that a BUS is OVER by HOUR 23: a FRACTION.");
        for (int c = 0; c <= 16; c++) {
            chanceIs(road("", "", "", "uv"), c, 0, 1, 1);
            chanceIs(road("", "", "", "uv"), c, 1, 0, 1);
            chanceIs(hindered("00000000"), c, 0, 1, 1);
        }
        chanceIs(hindered("11111111"), 0, 0, 1, 1);
        chanceIs(hindered("11111111"), 16, 0, 0, 1);
        chanceIs(hindered("10101010"), 16, 0, 0, 1);
        chanceIs(hindered("00100000"), 4, 0, 3, 4);
        chanceIs(hindered("11"), 4, 0, 9, 16);
        chanceIs(hindered("11111111"), 1, 0, 2562890625L, 1L << 32);
        chanceIs(hindered("11111111"), 15, 0, 1, 1L << 32);
        chanceIs(hindered("11111111"), 8, 0, 1, 256);
        SnowRoad last = just(JUST);
        tell(last, 3, "nnnnnnn");
        last.event(1, 22, 0);
        due("the eighth bus", last.chance(1, 7, 0), 15);
        due("the eighth bus", last.chance(1, 7, 1), 16);
    }

    private static void chancesInLowestTerms() {
        sentence(0, "FRACTIONS are told in lowest terms, above and below (0 by 1).");
        int[] above = {1, 15, 7, 13, 3, 11, 5, 9, 1, 7, 3, 5, 1, 3, 1, 1, 0};
        int[] below = {1, 16, 8, 16, 4, 16, 8, 16, 2, 16, 8, 16, 4, 16, 8, 16, 1};
        for (int c = 0; c <= 16; c++) {
            chanceIs(hindered("1"), c, 0, above[c], below[c]);
            chanceIs(hindered("01000000"), c, 0, above[c], below[c]);
        }
    }

    private static void chanceCalls() {
        sentence(33, "CHANCE: above, below. BAD. (As the least long.)");
        long bad = Long.MIN_VALUE + 2;
        SnowRoad x = hindered("1");
        for (int far : FAR) {
            due("c is " + far, x.chance(far, 0, 0), bad);
            due("bus " + far, x.chance(5, far, 0), bad);
            due("what is " + far, x.chance(5, 0, far), bad);
        }
        due("chance(-1, 0, 0)", x.chance(-1, 0, 0), bad);
        due("chance(17, 0, 0)", x.chance(17, 0, 0), bad);
        due("chance(5, -1, 0)", x.chance(5, -1, 0), bad);
        due("chance(5, 1, 0)", x.chance(5, 1, 0), bad);
        due("chance(5, 0, -1)", x.chance(5, 0, -1), bad);
        due("chance(5, 0, 2)", x.chance(5, 0, 2), bad);
        due("of no buses", new SnowRoad().chance(0, 0, 0), bad);
        sentence(0, "Where the answer is a long, a refusal -x is the least long and x more.");
        due("chance(17, 0, 1)", x.chance(17, 0, 1), -9223372036854775806L);
        due("BAD is no finding", x.count(8), 0);
        x.back();
        due("what is told anew is counted anew", x.chance(5, 0, 1), 1);
        x.event(1, 22, 0);
        due("what is told anew is counted anew", x.chance(5, 0, 1), 16);
        x.wipe(1);
        due("what is told anew is counted anew", x.chance(5, 0, 1), 1);
    }

    /** So many LOTS of 5, together, as the words tell them, with longs that do not wrap. */
    private static int lotsTogether(int seed, int n) {
        long now = seed;
        int sum = 0;
        for (int i = 0; i < n; i++) {
            now = Math.floorMod(1103515245L * now + 12345L, 1L << 32);
            sum += (int) (now / 65536 % 5);
        }
        return sum;
    }

    private static void lots() {
        sentence(0, "LOTS of m: SEED becomes 1103515245 SEED and 12345, as ints that wrap; its upper 16 bits as a number from 0 on, modulo m.");
        // From seed 0 it becomes 12345 (a lot of 0), then -740551042: its upper bits are 54236 (a lot of 1), not -11300.
        SnowRoad x = road(HEDGES, "", "", "");
        due("the first of seed 0", x.winters(0, 1, 0), 0);
        due("the second of seed 0", x.winters(0, 2, 0), 12);
        int[] seeds = {0, 1, -1, 7, 8, 12345, -12345, 65535, 65536, MOST, MOST - 1, LEAST, LEAST + 1, 1103515245, -1103515245};
        for (int seed : seeds) {
            SnowRoad y = road(HEDGES, "", "", "");
            for (int n = 0; n <= 24; n++) {
                due("winters(" + seed + ", " + n + ", 0)", y.winters(seed, n, 0), 12 * lotsTogether(seed, n));
            }
        }
    }

    private static void wintersOfAnyLength() {
        sentence(0, "WINTERS by a SEED: n LOTS of 5 (0 to 24) are THE FALL, in place of what is told (0 in later HOURS): SNOW behind HOUR 23; "
            + "how many BUSES are OVER.");
        SnowRoad x = road(HEDGES, "9".repeat(24), "", "atuvx");
        due("no lots", x.winters(5, 0, 0), 0);
        due("no lots", x.winters(5, 0, 1), 3);
        due("as many hours as there are", x.winters(5, 24, 0), 12 * lotsTogether(5, 24));
        due("one lot, and no more", x.winters(-1, 1, 0), 12 * lotsTogether(-1, 1));
        due("the fall stays", x.fall(23), 9);
        due("the fall stays", x.count(5), 12 * 9 * 24);
        SnowRoad y = road("oohcoochooco", "9", "a3e;l2w", "aacu");
        y.event(0, 2, 0);
        y.event(2, 1, 3);
        StringBuilder fall = new StringBuilder();
        for (int n = 1; n <= 24; n++) {
            fall.append(lotsTogether(7, n) - lotsTogether(7, n - 1));
            SnowRoad told = road("oohcoochooco", fall.toString(), "a3e;l2w", "aacu");
            told.event(0, 2, 0);
            told.event(2, 1, 3);
            due("winters(7, " + n + ", 0)", y.winters(7, n, 0), told.count(5));
            due("winters(7, " + n + ", 1)", y.winters(7, n, 1), told.count(6));
        }
    }

    private static void winterCalls() {
        sentence(34, "WINTERS: SNOW (what = 0), how many BUSES (1). BAD.");
        SnowRoad x = road(HEDGES, "", "", "a");
        bad("winters", n -> x.winters(0, n, 0), 25);
        bad("winters", what -> x.winters(0, 1, what), 2);
        due("winters(0, 24, 0)", x.winters(0, 24, 0), 12 * lotsTogether(0, 24));
        due("no buses", new SnowRoad().winters(0, 0, 1), 0);
    }
}
