/** What comes hour by hour (promises 14 to 22): each sentence that names an edge, by a test of its own. */
public final class HoursBoundariesTest extends Sentences {
    public static void main(String[] args) {
        miles();
        hours();
        atFirst();
        snowAheadOfWind();
        cuttings();
        windAndNoMore();
        allAtOnce();
        goneAtTheEnd();
        gales();
        brokenPloughs();
        thaws();
        thawsInTheirTurn();
        turns();
        ploughsByNumbers();
        threeTimesAsStrong();
        busDepths();
        busThreeMiles();
        busWaits();
        busIsOver();
        deepCalls();
        ploughBehindAnHour();
        atCalls();
        ridesOfOneNotStarted();
        ridesCalls();
        snowCalls();
        overCalls();
        clearedCalls();
        deepestOfLikeOnes();
        deepestCalls();
        shutCalls();
        bestCalls();
        end("the hours hold at their edges", 14, 22);
    }

    private static SnowRoad windy(String land, String fall, int wind) {
        SnowRoad x = road(land, fall, "", "");
        x.wind(wind);
        return x;
    }

    private static void miles() {
        sentence(0, "1 MILES are 0 (in the west) to 11.");
        SnowRoad x = windy("hhhhhohhhhhh", "9", 9);
        depths(x, 0, 0, 9, 9, 9, 9, 9, 0, 18, 9, 9, 9, 9, 9);
        depths(windy("ohhhhhhhhhho", "9", 9), 0, 0, 0, 18, 9, 9, 9, 9, 9, 9, 9, 9, 9, 0);
    }

    private static void hours() {
        sentence(0, "HOURS are 0 to 23.");
        SnowRoad first = road(HEDGES, "9", "", "");
        SnowRoad last = road(HEDGES, later(23, "9"), "", "");
        for (int hour = 0; hour < 24; hour++) {
            due("snow of hour 0 behind " + hour, first.deep(hour, 5), 9);
            due("snow of hour 23 behind " + hour, last.deep(hour, 5), hour == 23 ? 9 : 0);
        }
    }

    private static void atFirst() {
        sentence(0, "All MILES are 0 deep at first.");
        for (String land : new String[] {"", HEDGES, "cccccccccccc"}) {
            SnowRoad none = road(land, "", "", "");
            SnowRoad one = road(land, "0", "", "");
            for (int mile = 0; mile < 12; mile++) {
                due("no fall told", none.deep(0, mile), 0);
                due("a fall of 0", one.deep(23, mile), 0);
            }
        }
        due("nothing to clear", road("", "", "a9e", "").cleared(0, 0), 0);
    }

    private static void snowAheadOfWind() {
        sentence(0, "In an HOUR first snow falls");
        depths(windy("ohhhhhhhhhhh", "4", 4), 0, 0, 0, 8, 4);
        sentence(0, "Then THE WIND carries it");
        depths(windy("ohhhhhhhhhhh", "44", 3), 1, 0, 2, 14, 8);
        SnowRoad cutAhead = windy("ohhhhhhhhhhh", "4", 4);
        cutAhead.event(2, 0, 1);
        depths(cutAhead, 0, 0, 0, 4, 4);
    }

    private static void cuttings() {
        sentence(0, "each MILE is deeper by THE FALL; one in a cutting by 1 more, if that is above 0.");
        for (int fall = 0; fall <= 9; fall++) {
            SnowRoad x = road("chhhhhhhhhhc", "" + fall, "", "");
            int more = fall > 0 ? 1 : 0;
            depths(x, 0, 0, fall + more, fall, fall);
            depths(x, 0, 10, fall, fall + more);
            depths(x, 23, 10, fall, fall + more);
        }
        SnowRoad x = road("hc", "0102", "", "");
        int[][] due = {{0, 0}, {1, 2}, {1, 2}, {3, 5}};
        for (int hour = 0; hour < 4; hour++) {
            depths(x, hour, 0, due[hour]);
        }
        SnowRoad most = road("cccccccccccc", "9".repeat(24), "", "");
        depths(most, 23, 0, 240, 240, 240, 240, 240, 240, 240, 240, 240, 240, 240, 240);
    }

    private static void windAndNoMore() {
        sentence(0, "of each open MILE as much as THE WIND, no more than there is, goes to the next one to the east");
        for (int wind = 0; wind <= 9; wind++) {
            for (int fall = 0; fall <= 9; fall++) {
                int goes = Math.min(wind, fall);
                depths(windy("ohhhhhhhhhhh", "" + fall, wind), 0, 0, fall - goes, fall + goes, fall, fall);
            }
        }
        depths(windy("hchchchchchc", "1", 9), 23, 0, 1, 2, 1, 2, 1, 2, 1, 2, 1, 2, 1, 2);
        depths(windy("hhhhohhhhhhh", "5", 2), 0, 3, 5, 3, 7, 5);
        depths(windy("hhhhohhhhhhh", "5", 2), 1, 3, 5, 1, 9, 5);
        depths(windy("hhhhohhhhhhh", "5", 2), 2, 3, 5, 0, 10, 5);
        depths(windy("hhhhohhhhhhh", "5", 2), 3, 3, 5, 0, 10, 5);
    }

    private static void allAtOnce() {
        sentence(0, "all at once, by how deep they are then");
        SnowRoad x = windy("oooohhhhhhhh", "1", 9);
        depths(x, 0, 0, 0, 1, 1, 1, 2, 1);
        depths(x, 1, 0, 0, 0, 1, 1, 3, 1);
        depths(x, 2, 0, 0, 0, 0, 1, 4, 1);
        depths(x, 3, 0, 0, 0, 0, 0, 5, 1);
        depths(windy("oohhhhhhhhhh", "5", 2), 0, 0, 3, 5, 7, 5);
    }

    private static void goneAtTheEnd() {
        sentence(0, "that of MILE 11 is gone.");
        SnowRoad x = windy("hhhhhhhhhhho", "5", 2);
        int[] left = {58, 56, 55, 55};
        for (int hour = 0; hour < left.length; hour++) {
            due("snow(" + hour + ", 0)", x.snow(hour, 0), left[hour]);
        }
        depths(x, 0, 10, 5, 3);
        due("nothing comes to mile 0", x.deep(0, 0), 5);
        SnowRoad kept = windy("hhhhhhhhhhoh", "5", 2);
        due("what stops in mile 11 is there", kept.snow(23, 0), 60);
        depths(kept, 23, 10, 0, 10);
    }

    private static void gales() {
        sentence(0, "0 a GALE: THE WIND is 3 more in it (whatever number is told)");
        for (int number = 0; number < 12; number++) {
            SnowRoad x = windy("ohhhhhhhhhhh", "9", 0);
            x.event(0, 0, number);
            depths(x, 0, 0, 6, 12, 9);
            depths(x, 1, 0, 6, 12, 9);
        }
        SnowRoad above = windy("oohhhhhhhhhh", "99", 9);
        depths(above, 1, 0, 0, 18, 36, 18);
        above.event(0, 1, 0);
        depths(above, 0, 0, 0, 9, 18, 9);
        depths(above, 1, 0, 0, 15, 39, 18);
        due("what is told stays", above.count(3), 9);
        due("what is told stays", above.wind(9), 9);
        SnowRoad last = windy("ohhhhhhhhhhh", later(22, "9"), 0);
        last.event(0, 23, 0);
        depths(last, 22, 0, 9, 9);
        depths(last, 23, 0, 6, 12);
        SnowRoad two = windy("ohhhhhhhhhhh", "9", 1);
        two.event(0, 0, 0);
        two.event(0, 0, 5);
        depths(two, 0, 0, 2, 16);
        SnowRoad noMore = windy("ohhhhhhhhhhh", "2", 0);
        noMore.event(0, 0, 0);
        depths(noMore, 0, 0, 0, 4);
    }

    /** Where a plough that begins at MILE 0, with no snow, is when it rests in these HOURS. */
    private static void restsIn(SnowRoad x, int... resting) {
        int goes = 0;
        for (int hour = 0; hour < 24; hour++) {
            boolean rests = false;
            for (int one : resting) {
                rests |= one == hour;
            }
            goes += rests ? 0 : 1;
            int mile = goes % 22;
            due("at(" + hour + ", 0, 0)", x.at(hour, 0, 0), mile > 11 ? 22 - mile : mile);
        }
    }

    private static SnowRoad broken(String ploughs, int number, int... hours) {
        SnowRoad x = road("", "", ploughs, "");
        for (int hour : hours) {
            x.event(1, hour, number);
        }
        return x;
    }

    private static void brokenPloughs() {
        sentence(0, "1 that PLOUGH is BROKEN in it and in the next");
        restsIn(broken("a1e", 0));
        restsIn(broken("a1e", 0, 0), 0, 1);
        restsIn(broken("a1e", 0, 5), 5, 6);
        restsIn(broken("a1e", 0, 22), 22, 23);
        restsIn(broken("a1e", 0, 23), 23);
        restsIn(broken("a1e", 0, 5, 5), 5, 6);
        restsIn(broken("a1e", 0, 5, 6), 5, 6, 7);
        restsIn(broken("a1e", 0, 6, 5, 8), 5, 6, 7, 8, 9);
        restsIn(broken("a1e;c1e", 1, 5));
        for (int number = 1; number < 12; number++) {
            restsIn(broken("a1e", number, 5));
        }
        SnowRoad fourth = broken("a1e;a1e;a1e;a1e", 3, 0);
        for (int p = 0; p < 4; p++) {
            due("at(0, " + p + ", 0)", fourth.at(0, p, 0), p == 3 ? 0 : 1);
        }
        SnowRoad snowed = road(HEDGES, "5", "a1e", "");
        snowed.event(1, 0, 0);
        due("it clears nothing", snowed.at(0, 0, 2), 0);
        due("nothing is cleared", snowed.deep(1, 1), 5);
        due("in the third it does", snowed.at(2, 0, 2), 1);
    }

    private static SnowRoad thawed(String land, String fall, int hour, int mile, int times) {
        SnowRoad x = road(land, fall, "", "");
        for (int i = 0; i < times; i++) {
            x.event(2, hour, mile);
        }
        return x;
    }

    private static void thaws() {
        sentence(0, "Then by a THAW its MILE is half as deep, cut (by each).");
        for (int fall = 0; fall <= 9; fall++) {
            int left = fall;
            for (int times = 0; times <= 4; times++) {
                due(times + " thaws of " + fall, thawed(HEDGES, "" + fall, 0, 6, times).deep(0, 6), left);
                left /= 2;
            }
        }
        due("eight thaws of 240", thawed("cccccccccccc", "9".repeat(24), 23, 11, 8).deep(23, 11), 0);
        due("seven thaws of 240", thawed("cccccccccccc", "9".repeat(24), 23, 11, 7).deep(23, 11), 1);
        sentence(0, "2 a THAW on that MILE in it.");
        for (int mile = 0; mile < 12; mile++) {
            SnowRoad x = thawed(HEDGES, "888", 1, mile, 1);
            for (int m = 0; m < 12; m++) {
                due("deep(0, " + m + ")", x.deep(0, m), 8);
                due("deep(1, " + m + ")", x.deep(1, m), m == mile ? 8 : 16);
                due("deep(2, " + m + ")", x.deep(2, m), m == mile ? 16 : 24);
            }
        }
        due("in hour 0", thawed(HEDGES, "8", 0, 0, 1).deep(0, 0), 4);
        due("ahead of hour 23", thawed(HEDGES, "8", 23, 0, 1).deep(22, 0), 8);
        due("in hour 23", thawed(HEDGES, "8", 23, 0, 1).deep(23, 0), 4);
    }

    private static void thawsInTheirTurn() {
        sentence(0, "Then by a THAW");
        depths(thawed("ohhhhhhhhhhh", "5", 0, 0, 1), 0, 0, 1, 7);
        depths(thawed("ohhhhhhhhhhh", "5", 0, 1, 1), 0, 0, 3, 3);
        SnowRoad ahead = road(HEDGES, "7", "a1e", "");
        ahead.event(2, 0, 1);
        due("ahead of the plough", ahead.at(0, 0, 0), 1);
        due("ahead of the plough", ahead.at(0, 0, 2), 3);
    }

    private static void turns() {
        sentence(0, "one at MILE 0 that goes west, or at 11 that goes east, turns first.");
        String[] ploughs = {"a1w", "a1e", "l1e", "l1w", "b1w", "b1e", "k1e", "k1w"};
        int[][] due = {{1, 0, 2, 0}, {1, 0, 2, 0}, {10, 1, 9, 1}, {10, 1, 9, 1}, {0, 1, 1, 0}, {2, 0, 3, 0}, {11, 0, 10, 1}, {9, 1, 8, 1}};
        for (int i = 0; i < ploughs.length; i++) {
            SnowRoad x = road("", "", ploughs[i], "");
            for (int k = 0; k < 4; k++) {
                due(ploughs[i] + ": at(" + k / 2 + ", 0, " + k % 2 + ")", x.at(k / 2, 0, k % 2), due[i][k]);
            }
        }
        SnowRoad stuck = road(HEDGES, "9", "a1w;l1e", "");
        due("it turns, though it sticks then", stuck.at(0, 0, 1), 0);
        due("it stays", stuck.at(0, 0, 0), 0);
        due("mile 1 is cleared", stuck.deep(0, 1), 8);
        due("it turns, though it sticks then", stuck.at(0, 1, 1), 1);
        due("it stays", stuck.at(0, 1, 0), 11);
        due("mile 10 is cleared", stuck.deep(0, 10), 8);
        sentence(0, "Then PLOUGHS, by numbers, unless they are BROKEN");
        SnowRoad resting = road("", "", "a1w;l1e", "");
        resting.event(1, 0, 0);
        resting.event(1, 0, 1);
        due("a broken one does not turn", resting.at(1, 0, 1), 1);
        due("a broken one does not turn", resting.at(1, 1, 1), 0);
        due("later it does", resting.at(2, 0, 1), 0);
        due("later it does", resting.at(2, 1, 1), 1);
    }

    private static void ploughsByNumbers() {
        sentence(0, "Then PLOUGHS, by numbers");
        SnowRoad x = road(HEDGES, "9", "a9e;c9w;a9e;c9w", "");
        int[] clear = {9, 0, 0, 0};
        for (int p = 0; p < 4; p++) {
            due("at(0, " + p + ", 2)", x.at(0, p, 2), clear[p]);
            due("at(0, " + p + ", 0)", x.at(0, p, 0), 1);
        }
        SnowRoad helped = road(HEDGES, "4", "a1e;c1w", "");
        due("the first is stuck", helped.at(0, 0, 0), 0);
        due("what it leaves is not too deep", helped.at(0, 1, 0), 1);
        due("the second clears the rest", helped.at(0, 1, 2), 3);
        due("deep(0, 1)", helped.deep(0, 1), 0);
    }

    /** Behind three HOURS in which it is broken a plough at MILE 0 looks at so deep a MILE 1. */
    private static SnowRoad facing(int strength, int depth) {
        int all = depth / 4;
        StringBuilder fall = new StringBuilder();
        for (int hour = 0; hour < 4; hour++) {
            fall.append(hour < depth % 4 ? all + 1 : all);
        }
        SnowRoad x = road(HEDGES, fall.toString(), "a" + strength + "e", "");
        x.event(1, 0, 0);
        x.event(1, 1, 0);
        return x;
    }

    private static void threeTimesAsStrong() {
        sentence(0, "If the next MILE that way is no deeper than three times as much as it is STRONG, it goes there, and CLEARS that MILE: it is 0 deep; "
            + "else it is STUCK in that HOUR: it stays, and CLEARS as much of that next MILE as it is STRONG.");
        for (int strength = 1; strength <= 9; strength++) {
            for (int depth = 0; depth <= 36; depth++) {
                SnowRoad x = facing(strength, depth);
                boolean goes = depth <= 3 * strength;
                String told = strength + " strong, " + depth + " deep: ";
                due(told + "not yet", x.deep(2, 1) - x.fall(0) - x.fall(1) - x.fall(2), 0);
                due(told + "where", x.at(3, 0, 0), goes ? 1 : 0);
                due(told + "how much", x.at(3, 0, 2), goes ? depth : strength);
                due(told + "what is left", x.deep(3, 1), goes ? 0 : depth - strength);
                due(told + "its own mile", x.deep(3, 0), depth);
            }
        }
        SnowRoad west = road(HEDGES, "4", "c1w", "");
        due("westward", west.at(0, 0, 0), 2);
        due("westward", west.deep(0, 1), 3);
        due("westward", west.at(1, 0, 0), 1);
    }

    private static void busDepths() {
        sentence(0, "as long as the next one is no deeper than 4");
        for (int fall = 0; fall <= 9; fall++) {
            due(fall + " deep", road(HEDGES, "" + fall, "", "a").rides(0, 0), fall <= 4 ? 3 : 0);
        }
        sentence(0, "Then BUSES, by numbers: one comes to MILE 0 in its HOUR");
        due("however deep that is", road("chhhhhhhhhhh", "4", "", "a").rides(0, 0), 3);
        SnowRoad shut = road(HEDGES, "9", "", "ax");
        due("it comes there", shut.rides(0, 0), 0);
        due("it comes there in the last hour", shut.rides(23, 1), 0);
        due("not sooner", shut.rides(22, 1), NONE);
        due("behind the plough of that hour", road(HEDGES, "5", "a9e", "a").rides(0, 0), 1);
        due("buses do not hinder one another", road("", "", "", "aaaaaaaa").count(6), 8);
    }

    private static void busThreeMiles() {
        sentence(0, "it goes on eastward, MILE by MILE, 3 at most");
        int[] stops = {0, 0, 1, 2, 3, 3, 3, 3, 3, 3, 3, 3};
        for (int mile = 1; mile < 12; mile++) {
            StringBuilder land = new StringBuilder(HEDGES);
            land.setCharAt(mile, 'c');
            SnowRoad x = road(land.toString(), "4", "", "a");
            due("mile " + mile + " is too deep", x.rides(0, 0), stops[mile]);
            due("mile " + mile + " is too deep", x.rides(23, 0), mile - 1);
            due("mile " + mile + " is too deep", x.over(0, 0), NONE);
        }
        SnowRoad free = road("", "", "", "a");
        int[] miles = {3, 6, 9, 11, 11};
        for (int hour = 0; hour < miles.length; hour++) {
            due("rides(" + hour + ", 0)", free.rides(hour, 0), miles[hour]);
        }
    }

    private static void busWaits() {
        sentence(0, "if it goes none, it WAITS in that HOUR.");
        int[] waits = {0, 24, 23, 23, 23, 22, 22, 22, 21, 21, 21, 20};
        for (int mile = 1; mile < 12; mile++) {
            StringBuilder land = new StringBuilder(HEDGES);
            land.setCharAt(mile, 'c');
            due("mile " + mile + " is too deep", road(land.toString(), "4", "", "a").over(0, 1), waits[mile]);
        }
        SnowRoad thaw = road(HEDGES, "5", "", "a");
        thaw.event(2, 2, 1);
        due("it waits, goes one, waits", thaw.over(0, 1), 23);
        due("it goes one", thaw.rides(2, 0), 1);
        SnowRoad late = road(HEDGES, "5", "", "awx");
        due("from hour 0 on", late.over(0, 1), 24);
        due("from hour 22 on", late.over(1, 1), 2);
        due("in hour 23 alone", late.over(2, 1), 1);
    }

    private static void busIsOver() {
        sentence(0, "At MILE 11 it is OVER.");
        SnowRoad x = road(HEDGES, later(4, "9"), "", "ab");
        due("ahead of the snow", x.over(0, 0), 3);
        due("it does not wait when it is over", x.over(0, 1), 0);
        due("it stays there", x.rides(23, 0), 11);
        due("at mile 9 it is not over", x.over(1, 0), NONE);
        due("rides(23, 1)", x.rides(23, 1), 9);
        due("it waits there", x.over(1, 1), 20);
        // The ploughs have met, so that all but mile 11 is clear, to which one of them comes in hour 10.
        SnowRoad deep = road("hhhhhhhhhhhc", "5", "l9w;a9e", "a");
        due("at mile 10 it is not over", deep.rides(9, 0), 10);
        due("over(0, 0)", deep.over(0, 0), 10);
    }

    private static void badHourOf(String call, java.util.function.IntToLongFunction of) {
        due(call + " of hour -1", of.applyAsLong(-1), BAD);
        due(call + " of hour 24", of.applyAsLong(24), BAD);
        bad(call, of);
    }

    private static void bad(String call, java.util.function.IntToLongFunction of) {
        for (int far : FAR) {
            due(call + " of " + far, of.applyAsLong(far), BAD);
        }
    }

    private static SnowRoad lively() {
        return road("oohcoochooco", "123310004", "a3e;l2w", "aax");
    }

    private static void deepCalls() {
        sentence(14, "How deep a MILE is. BAD.");
        SnowRoad x = lively();
        due("deep(0, 0)", x.deep(0, 0), 0);
        due("deep(23, 11)", road(HEDGES, later(23, "7"), "", "").deep(23, 11), 7);
        badHourOf("deep", hour -> x.deep(hour, 0));
        due("deep(0, -1)", x.deep(0, -1), BAD);
        due("deep(0, 12)", x.deep(0, 12), BAD);
        bad("deep", mile -> x.deep(0, mile));
    }

    private static void ploughBehindAnHour() {
        sentence(0, "Of a PLOUGH: the MILE; which way it goes (0 e, 1 w); how much it CLEARED in that HOUR.");
        SnowRoad one = road(HEDGES, "4", "k1e", "");
        int[][] behind = {{10, 0, 1}, {11, 0, 3}};
        one.event(1, 2, 0);
        due("broken, as it was", one.at(2, 0, 1), 0);
        one.back();
        one.event(2, 2, 10);
        one.event(2, 2, 10);
        for (int hour = 0; hour < 2; hour++) {
            for (int what = 0; what < 3; what++) {
                due("at(" + hour + ", 0, " + what + ")", one.at(hour, 0, what), behind[hour][what]);
            }
        }
        due("it turns and goes", one.at(2, 0, 0), 10);
        due("it goes west", one.at(2, 0, 1), 1);
        due("1 is left behind two thaws", one.at(2, 0, 2), 1);
    }

    private static void atCalls() {
        sentence(15, "The MILE (what = 0), which way (1), how much CLEARED (2) of a PLOUGH. BAD.");
        SnowRoad x = lively();
        badHourOf("at", hour -> x.at(hour, 0, 0));
        bad("at", plough -> x.at(0, plough, 0));
        bad("at", what -> x.at(0, 0, what));
        due("at(0, -1, 0)", x.at(0, -1, 0), BAD);
        due("at(0, 2, 0)", x.at(0, 2, 0), BAD);
        due("at(0, 0, -1)", x.at(0, 0, -1), BAD);
        due("at(0, 0, 3)", x.at(0, 0, 3), BAD);
        due("of no ploughs", new SnowRoad().at(0, 0, 0), BAD);
        SnowRoad four = road(HEDGES, later(23, "8"), "a9e;a9e;a9e;l9w", "");
        due("at(23, 3, 0)", four.at(23, 3, 0), 9);
        due("at(23, 3, 1)", four.at(23, 3, 1), 1);
        due("at(23, 3, 2)", four.at(23, 3, 2), 8);
        due("at(0, 4, 0)", four.at(0, 4, 0), BAD);
        due("in that hour alone", four.at(22, 3, 2), 0);
    }

    private static void ridesOfOneNotStarted() {
        sentence(0, "Of a BUS: the MILE (NONE: not started).");
        SnowRoad shut = road(HEDGES, "9", "", "abx");
        due("in its hour it is at mile 0", shut.rides(0, 0), 0);
        due("it is not started", shut.rides(0, 1), NONE);
        due("in its hour it is at mile 0", shut.rides(1, 1), 0);
        due("it is not started", shut.rides(22, 2), NONE);
        due("in its hour it is at mile 0", shut.rides(23, 2), 0);
        sentence(0, "in that HOUR and each later one it goes on eastward");
        SnowRoad free = road("", "", "", "u");
        for (int hour = 0; hour < 24; hour++) {
            due("rides(" + hour + ", 0)", free.rides(hour, 0), hour < 20 ? NONE : Math.min(11, 3 * (hour - 19)));
        }
    }

    private static void ridesCalls() {
        sentence(16, "The MILE of a BUS; NONE. BAD.");
        SnowRoad x = road("", "", "", "ahx");
        for (int hour = 0; hour < 24; hour++) {
            due("rides(" + hour + ", 0)", x.rides(hour, 0), Math.min(11, 3 * hour + 3));
            due("rides(" + hour + ", 1)", x.rides(hour, 1), hour < 7 ? NONE : Math.min(11, 3 * hour - 18));
            due("rides(" + hour + ", 2)", x.rides(hour, 2), hour < 23 ? NONE : 3);
        }
        badHourOf("rides", hour -> x.rides(hour, 0));
        bad("rides", bus -> x.rides(0, bus));
        due("rides(0, -1)", x.rides(0, -1), BAD);
        due("rides(0, 3)", x.rides(0, 3), BAD);
        due("of no buses", new SnowRoad().rides(0, 0), BAD);
    }

    private static void snowCalls() {
        sentence(0, "SNOW behind an HOUR: all MILES together; how many MILES are deeper than 4.");
        SnowRoad falling = road("hhhhhhhhhhhc", "2".repeat(24), "", "");
        int[] deeper = {0, 1, 12, 12};
        for (int hour = 0; hour < 4; hour++) {
            due("snow(" + hour + ", 0)", falling.snow(hour, 0), 25 * (hour + 1));
            due("snow(" + hour + ", 1)", falling.snow(hour, 1), deeper[hour]);
        }
        due("behind the last hour", falling.snow(23, 0), 25 * 24);
        sentence(17, "SNOW (what = 0), how many MILES are deeper than 4 (1). BAD.");
        due("none", new SnowRoad().snow(23, 0), 0);
        for (int fall = 0; fall <= 9; fall++) {
            SnowRoad x = road(HEDGES, "" + fall, "", "");
            due("all miles together", x.snow(0, 0), 12 * fall);
            due(fall + " deep", x.snow(0, 1), fall > 4 ? 12 : 0);
        }
        SnowRoad some = road("hhhhhhhhhhhc", "4", "", "");
        due("snow(0, 0)", some.snow(0, 0), 49);
        due("mile 11 alone", some.snow(0, 1), 1);
        due("mile 0 alone", road("chhhhhhhhhhh", "4", "", "").snow(23, 1), 1);
        due("all there can be", road("cccccccccccc", "9".repeat(24), "", "").snow(23, 0), 2880);
        badHourOf("snow", hour -> some.snow(hour, 0));
        bad("snow", what -> some.snow(0, what));
        due("snow(0, -1)", some.snow(0, -1), BAD);
        due("snow(0, 2)", some.snow(0, 2), BAD);
    }

    private static void overCalls() {
        sentence(0, "OVER of a BUS: the HOUR; NONE. WAITED of a BUS: in how many HOURS.");
        SnowRoad thawed = road("hchhhhhhhhhh", "4", "", "avwx");
        thawed.event(2, 20, 1);
        due("over in the last hour", thawed.over(0, 0), 23);
        due("it waited till the thaw", thawed.over(0, 1), 20);
        due("too late", thawed.over(1, 0), NONE);
        due("it never waited", thawed.over(1, 1), 0);
        sentence(18, "OVER (what = 0; NONE), WAITED (1). BAD.");
        String starts = "abcdefghijklmnopqrstuvwx";
        for (int hour = 0; hour < 24; hour++) {
            SnowRoad x = road("", "", "", "" + starts.charAt(hour));
            due("over of one from hour " + hour, x.over(0, 0), hour <= 20 ? hour + 3 : NONE);
            due("waited of one from hour " + hour, x.over(0, 1), 0);
        }
        SnowRoad x = lively();
        bad("over", bus -> x.over(bus, 0));
        bad("over", what -> x.over(0, what));
        due("over(-1, 0)", x.over(-1, 0), BAD);
        due("over(3, 0)", x.over(3, 0), BAD);
        due("over(0, -1)", x.over(0, -1), BAD);
        due("over(0, 2)", x.over(0, 2), BAD);
        due("of no buses", new SnowRoad().over(0, 0), BAD);
    }

    private static void clearedCalls() {
        sentence(0, "CLEARED by a PLOUGH: in all; STUCK: in how many HOURS.");
        SnowRoad slow = road(HEDGES, "4", "a1e", "");
        due("eleven miles, in two hours each", slow.cleared(0, 0), 44);
        due("in the first of two hours", slow.cleared(0, 1), 11);
        sentence(19, "CLEARED (what = 0), STUCK (1). BAD.");
        SnowRoad none = road("", "", "a1e", "");
        due("nothing", none.cleared(0, 0), 0);
        due("never", none.cleared(0, 1), 0);
        SnowRoad always = road(HEDGES, "9".repeat(24), "a1e", "");
        due("1 in each hour", always.cleared(0, 0), 24);
        due("in each hour", always.cleared(0, 1), 24);
        SnowRoad broken = road(HEDGES, "9".repeat(24), "a1e", "");
        broken.event(1, 0, 0);
        broken.event(1, 23, 0);
        due("in hours in which it is broken it is not stuck", broken.cleared(0, 1), 21);
        due("in hours in which it is broken it clears nothing", broken.cleared(0, 0), 21);
        SnowRoad x = lively();
        bad("cleared", plough -> x.cleared(plough, 0));
        bad("cleared", what -> x.cleared(0, what));
        due("cleared(-1, 0)", x.cleared(-1, 0), BAD);
        due("cleared(2, 0)", x.cleared(2, 0), BAD);
        due("cleared(0, -1)", x.cleared(0, -1), BAD);
        due("cleared(0, 2)", x.cleared(0, 2), BAD);
        due("of no ploughs", new SnowRoad().cleared(0, 0), BAD);
    }

    private static void deepestIs(SnowRoad x, int depth, int hour, int mile) {
        due("deepest(0)", x.deepest(0), depth);
        due("deepest(1)", x.deepest(1), hour);
        due("deepest(2)", x.deepest(2), mile);
    }

    private static void deepestOfLikeOnes() {
        sentence(0, "DEEPEST: the greatest depth of any MILE behind any HOUR; the first HOUR; the least MILE then.");
        deepestIs(new SnowRoad(), 0, 0, 0);
        deepestIs(road(HEDGES, "1", "", ""), 1, 0, 0);
        deepestIs(road("hchhhhhhhhhh", "1", "", ""), 2, 0, 1);
        deepestIs(road("hhhhhhhhhhhc", later(23, "1"), "", ""), 2, 23, 11);
        deepestIs(road("hhhhhhcchhhc", "003", "", ""), 4, 2, 6);
        // Behind hour 5 miles 0 on are as deep as mile 6 was behind hour 2, and mile 6 no more.
        SnowRoad sooner = road("hhhhhhchhhhh", "003001", "", "");
        sooner.event(2, 5, 6);
        deepestIs(sooner, 4, 2, 6);
        SnowRoad cleared = road(HEDGES, "3", "a1e", "");
        due("mile 1 is cleared at once", cleared.deep(0, 1), 0);
        deepestIs(cleared, 3, 0, 0);
        SnowRoad behind = road("hchhhhhhhhhh", "3", "a9e", "");
        deepestIs(behind, 3, 0, 0);
    }

    private static void deepestCalls() {
        sentence(20, "DEEPEST: how deep (what = 0), the HOUR (1), the MILE (2). BAD.");
        deepestIs(road("hhhhhhhhhhch", "0003", "", ""), 4, 3, 10);
        SnowRoad x = lively();
        bad("deepest", what -> x.deepest(what));
        due("deepest(-1)", x.deepest(-1), BAD);
        due("deepest(3)", x.deepest(3), BAD);
    }

    private static void shutCalls() {
        sentence(0, "SHUT: in how many HOURS, behind them, any MILE is deeper than 4.");
        due("no snow", new SnowRoad().shut(), 0);
        due("4 deep", road(HEDGES, "4", "", "").shut(), 0);
        sentence(21, "SHUT.");
        due("5 deep", road(HEDGES, "5", "", "").shut(), 24);
        due("in the last hour", road(HEDGES, later(23, "5"), "", "").shut(), 1);
        due("mile 11 alone", road("hhhhhhhhhhhc", "4", "", "").shut(), 24);
        due("mile 0 alone", road("chhhhhhhhhhh", "4", "", "").shut(), 24);
        SnowRoad once = road("hchhhhhhhhhh", "4", "", "");
        once.event(2, 1, 1);
        due("until it thaws", once.shut(), 1);
        SnowRoad within = road("hchhhhhhhhhh", "4", "a9e", "");
        due("what is cleared in the hour does not count", within.shut(), 0);
    }

    private static void bestCalls() {
        sentence(0, "BEST: the PLOUGH that CLEARED most, of like ones the least; NONE: none anything.");
        due("no ploughs", new SnowRoad().best(), NONE);
        due("none anything", road("", "", "a9e;b9e;c9e;d9e", "").best(), NONE);
        sentence(22, "BEST; NONE.");
        String last = later(23, "1");
        due("one cleared 1", road(HEDGES, last, "a9e", "").best(), 0);
        due("all like ones", road(HEDGES, last, "a9e;c9e;e9e;g9e", "").best(), 0);
        SnowRoad fourth = road(HEDGES, last, "a9e;c9e;e9e;g9e", "");
        for (int p = 0; p < 3; p++) {
            due("best()", fourth.best(), p);
            fourth.event(1, 23, p);
        }
        due("the last alone cleared anything", fourth.best(), 3);
        fourth.event(1, 23, 3);
        due("none anything", fourth.best(), NONE);
        // In hour 23 the first comes to a hedge, the second to a cutting.
        SnowRoad more = road("hhhhhhhhhchh", later(23, "1"), "a9e;l9w", "");
        due("cleared(0, 0)", more.cleared(0, 0), 1);
        due("cleared(1, 0)", more.cleared(1, 0), 2);
        due("most, though it is not the least", more.best(), 1);
    }
}
