/** For each promise ordinary inputs, the edges that the document names, and wrong inputs. */
public final class PromisesTest {
    private static final String HEDGES = "hhhhhhhhhhhh";
    private static int wrong = 0;
    private static int promise = 0;

    private static void due(String call, long got, long want) {
        if (got != want) {
            wrong++;
            System.out.println("promise " + promise + ": " + call + " answered " + got + ", due is " + want);
        }
    }

    private static void tell(SnowRoad x, int text, String bytes) {
        for (int i = 0; i < bytes.length(); i++) {
            x.type(text, bytes.charAt(i));
        }
    }

    private static SnowRoad road(String land, String fall, String ploughs, String buses) {
        SnowRoad x = new SnowRoad();
        tell(x, 0, land);
        tell(x, 1, fall);
        tell(x, 2, ploughs);
        tell(x, 3, buses);
        return x;
    }

    /** Two ploughs, three buses that all stick, four events, two of which had better not be. */
    private static SnowRoad stuckRoad() {
        SnowRoad x = road("oocohhohoocc", "4003", "i2w;a2e", "qqh");
        x.wind(1);
        x.event(1, 7, 0);
        x.event(0, 0, 0);
        x.event(1, 3, 1);
        x.event(1, 6, 2);
        return x;
    }

    public static void main(String[] args) {
        aNewObject();
        typing();
        wiping();
        undoing();
        faults();
        lands();
        falls();
        ploughs();
        buses();
        winds();
        events();
        backs();
        reads();
        depths();
        ploughsOnTheirWay();
        rides();
        snows();
        overs();
        cleareds();
        deepests();
        shuts();
        bests();
        begins();
        hedges();
        starts();
        spares();
        seens();
        forgets();
        nevers();
        strengths();
        lies();
        asks();
        chances();
        winters();
        sheets();
        loses();
        lays();
        gets();
        copies();
        writes();
        counts();
        digests();
        System.out.println(wrong == 0 ? "all promises are kept" : wrong + " answers are not as due");
        if (wrong != 0) {
            System.exit(1);
        }
    }

    private static void aNewObject() {
        promise = 1;
        SnowRoad x = new SnowRoad();
        int[] counts = {0, 0, 0, 2, 0, 0, 0, 0, 0};
        for (int what = 0; what < counts.length; what++) {
            due("count(" + what + ")", x.count(what), counts[what]);
        }
        for (int i = 0; i < 4; i++) {
            due("fault(" + i + ")", x.fault(i), SnowRoad.NONE);
            due("lose(" + i + ")", x.lose(i), -11);
        }
        due("NONE", SnowRoad.NONE, -1);
        due("BAD", SnowRoad.BAD, -2);
        due("NOT", SnowRoad.NOT, -3);
        due("FULL", SnowRoad.FULL, -4);
    }

    private static void typing() {
        promise = 2;
        int[] room = {12, 24, 15, 8};
        for (int text = 0; text < 4; text++) {
            SnowRoad x = new SnowRoad();
            for (int i = 1; i <= room[text]; i++) {
                due("type a byte", x.type(text, i % 2 == 0 ? 0 : 255), i);
            }
            due("type behind a full text", x.type(text, 'a'), SnowRoad.FULL);
            due("BAD is told ahead of FULL", x.type(text, 256), SnowRoad.BAD);
            due("count(2)", x.count(2), room[text]);
        }
        SnowRoad x = new SnowRoad();
        due("type(-1, 0)", x.type(-1, 0), SnowRoad.BAD);
        due("type(4, 0)", x.type(4, 0), SnowRoad.BAD);
        due("type(0, -1)", x.type(0, -1), SnowRoad.BAD);
        due("type(0, 256)", x.type(0, 256), SnowRoad.BAD);
        due("count(2)", x.count(2), 0);
    }

    private static void wiping() {
        promise = 3;
        SnowRoad x = road("hc", "123", "", "");
        due("wipe(0)", x.wipe(0), 2);
        due("land(0)", x.land(0), 0);
        due("fall(0)", x.fall(0), 1);
        due("wipe(0)", x.wipe(0), 0);
        due("wipe(1)", x.wipe(1), 3);
        due("deep(0, 0)", x.deep(0, 0), 0);
        due("wipe(-1)", x.wipe(-1), SnowRoad.BAD);
        due("wipe(4)", x.wipe(4), SnowRoad.BAD);
    }

    private static void undoing() {
        promise = 4;
        SnowRoad x = road("hc", "", "a1e;", "");
        due("undo(0)", x.undo(0), 1);
        due("land(1)", x.land(1), 0);
        due("undo(0)", x.undo(0), 0);
        due("undo(0)", x.undo(0), SnowRoad.NOT);
        due("count(0)", x.count(0), 0);
        due("undo(2)", x.undo(2), 3);
        due("count(0)", x.count(0), 1);
        due("undo(-1)", x.undo(-1), SnowRoad.BAD);
        due("undo(4)", x.undo(4), SnowRoad.BAD);
    }

    private static void faultOf(int text, String bytes, int want) {
        SnowRoad x = new SnowRoad();
        tell(x, text, bytes);
        due("fault of \"" + bytes + "\"", x.fault(text), want);
    }

    private static void faults() {
        promise = 5;
        faultOf(0, "ohcohcohcohc", SnowRoad.NONE);
        faultOf(0, "ohx", 2);
        faultOf(0, "xo", 0);
        faultOf(0, "ohcohcohcohO", 11);
        faultOf(1, "0123456789", SnowRoad.NONE);
        faultOf(1, "12/", 2);
        faultOf(1, ":", 0);
        faultOf(2, "", SnowRoad.NONE);
        faultOf(2, "a", 1);
        faultOf(2, "a1", 2);
        faultOf(2, "a1e", SnowRoad.NONE);
        faultOf(2, "a1e;", 4);
        faultOf(2, "a1e;l9w", SnowRoad.NONE);
        faultOf(2, "a1e;;", 4);
        faultOf(2, "m1e", 0);
        faultOf(2, "a0e", 1);
        faultOf(2, "a1n", 2);
        faultOf(2, "a1ea", 3);
        faultOf(2, "a1e;a1e;a1e;a1", 14);
        faultOf(2, "a1e;a1e;a1e;a1e", SnowRoad.NONE);
        faultOf(3, "abcdwx", SnowRoad.NONE);
        faultOf(3, "ay", 1);
        faultOf(3, "A", 0);
        due("fault(-1)", new SnowRoad().fault(-1), SnowRoad.BAD);
        due("fault(4)", new SnowRoad().fault(4), SnowRoad.BAD);
    }

    private static void lands() {
        promise = 6;
        SnowRoad x = road("ohc", "", "", "");
        due("land(0)", x.land(0), 0);
        due("land(1)", x.land(1), 1);
        due("land(2)", x.land(2), 2);
        due("land(3)", x.land(3), 0);
        due("land(11)", x.land(11), 0);
        due("land(-1)", x.land(-1), SnowRoad.BAD);
        due("land(12)", x.land(12), SnowRoad.BAD);
        x.type(0, 'z');
        due("land(2) with a fault", x.land(2), 0);
    }

    private static void falls() {
        promise = 7;
        SnowRoad x = road("", "901", "", "");
        due("fall(0)", x.fall(0), 9);
        due("fall(1)", x.fall(1), 0);
        due("fall(2)", x.fall(2), 1);
        due("fall(23)", x.fall(23), 0);
        due("fall(-1)", x.fall(-1), SnowRoad.BAD);
        due("fall(24)", x.fall(24), SnowRoad.BAD);
        x.type(1, 'o');
        due("fall(0) with a fault", x.fall(0), 0);
    }

    private static void ploughs() {
        promise = 8;
        SnowRoad x = road("", "", "c4w;l9e", "");
        due("plough(0, 0)", x.plough(0, 0), 2);
        due("plough(0, 1)", x.plough(0, 1), 4);
        due("plough(0, 2)", x.plough(0, 2), 1);
        due("plough(1, 0)", x.plough(1, 0), 11);
        due("plough(1, 1)", x.plough(1, 1), 9);
        due("plough(1, 2)", x.plough(1, 2), 0);
        due("plough(-1, 0)", x.plough(-1, 0), SnowRoad.BAD);
        due("plough(2, 0)", x.plough(2, 0), SnowRoad.BAD);
        due("plough(0, -1)", x.plough(0, -1), SnowRoad.BAD);
        due("plough(0, 3)", x.plough(0, 3), SnowRoad.BAD);
        x.type(2, ';');
        due("plough(0, 0) with a fault", x.plough(0, 0), SnowRoad.BAD);
    }

    private static void buses() {
        promise = 9;
        SnowRoad x = road("", "", "", "axa");
        due("bus(0)", x.bus(0), 0);
        due("bus(1)", x.bus(1), 23);
        due("bus(2)", x.bus(2), 0);
        due("bus(3)", x.bus(3), SnowRoad.BAD);
        due("bus(-1)", x.bus(-1), SnowRoad.BAD);
        x.type(3, 'y');
        due("bus(0) with a fault", x.bus(0), SnowRoad.BAD);
    }

    private static void winds() {
        promise = 10;
        SnowRoad x = road("", "9", "", "");
        due("deep(0, 0)", x.deep(0, 0), 7);
        due("wind(0)", x.wind(0), 2);
        due("deep(0, 0)", x.deep(0, 0), 9);
        due("wind(9)", x.wind(9), 0);
        due("deep(0, 0)", x.deep(0, 0), 0);
        due("wind(10)", x.wind(10), SnowRoad.BAD);
        due("wind(-1)", x.wind(-1), SnowRoad.BAD);
        due("count(3)", x.count(3), 9);
    }

    private static void events() {
        promise = 11;
        SnowRoad x = road("", "99", "a1e", "");
        due("event(0, 0, 11)", x.event(0, 0, 11), 1);
        due("a gale", x.deep(0, 0), 4);
        due("event(0, 0, 0)", x.event(0, 0, 0), 2);
        due("two gales", x.deep(0, 0), 1);
        due("a gale is of its hour alone", x.deep(1, 0), 8);
        for (int i = 3; i <= 8; i++) {
            due("event(1, 23, 11)", x.event(1, 23, 11), i);
        }
        due("a ninth", x.event(0, 0, 0), SnowRoad.FULL);
        due("event(3, 0, 0)", x.event(3, 0, 0), SnowRoad.BAD);
        due("event(-1, 0, 0)", x.event(-1, 0, 0), SnowRoad.BAD);
        due("event(0, 24, 0)", x.event(0, 24, 0), SnowRoad.BAD);
        due("event(0, -1, 0)", x.event(0, -1, 0), SnowRoad.BAD);
        due("event(0, 0, 12)", x.event(0, 0, 12), SnowRoad.BAD);
        due("event(0, 0, -1)", x.event(0, 0, -1), SnowRoad.BAD);
        due("count(4)", x.count(4), 8);

        SnowRoad broken = road("", "", "a1e;a1e", "");
        broken.event(1, 3, 1);
        int[] miles = {1, 2, 3, 3, 3, 4};
        for (int hour = 0; hour < miles.length; hour++) {
            due("at(" + hour + ", 1, 0)", broken.at(hour, 1, 0), miles[hour]);
            due("at(" + hour + ", 0, 0)", broken.at(hour, 0, 0), hour + 1);
        }

        SnowRoad thaws = road(HEDGES, "9", "", "");
        thaws.event(2, 0, 4);
        due("a thaw", thaws.deep(0, 4), 4);
        thaws.event(2, 0, 4);
        due("two thaws", thaws.deep(0, 4), 2);
        due("no thaw", thaws.deep(0, 5), 9);
    }

    private static void backs() {
        promise = 12;
        SnowRoad x = road(HEDGES, "8", "", "");
        x.event(2, 0, 0);
        x.event(2, 0, 1);
        due("back()", x.back(), 1);
        due("deep(0, 0)", x.deep(0, 0), 4);
        due("deep(0, 1)", x.deep(0, 1), 8);
        due("back()", x.back(), 0);
        due("deep(0, 0)", x.deep(0, 0), 8);
        due("back()", x.back(), SnowRoad.NOT);
    }

    private static void layAll(SnowRoad x, int s, int form, int... items) {
        x.sheet(s, form, items.length);
        for (int i = 0; i < items.length; i++) {
            x.lay(s, form, i, items[i]);
        }
    }

    private static void reads() {
        promise = 13;
        SnowRoad x = road(HEDGES, "8", "", "");
        x.event(2, 0, 0);
        layAll(x, 0, 0, 2, 0, 1, 2, 0, 2, 2, 0);
        due("what is whole", x.read(0), 2);
        due("count(4)", x.count(4), 3);
        due("deep(0, 0)", x.deep(0, 0), 4);
        due("deep(0, 2)", x.deep(0, 2), 4);
        layAll(x, 1, 2, 0, 23, 11, 0, 24, 0, 0, 0, 0);
        due("as long as each may be", x.read(1), 1);
        layAll(x, 2, 1, -1, 0, 0);
        due("none that may be", x.read(2), 0);
        x.sheet(2, 1, 60);
        due("as many as there is room for", x.read(2), 4);
        due("count(4)", x.count(4), 8);
        due("no room", x.read(2), 0);
        due("read(3)", x.read(3), -11);
        due("count(8)", x.count(8), 1);
        due("read(4)", x.read(4), SnowRoad.BAD);
        due("read(-1)", x.read(-1), SnowRoad.BAD);
        x.sheet(3, 0, 0);
        due("an empty sheet", x.read(3), 0);
    }

    private static void depths() {
        promise = 14;
        SnowRoad x = road("oochhhhhhhhh", "5", "", "");
        int[][] due = {{3, 5, 8, 5}, {1, 5, 10, 5}, {0, 4, 12, 5}, {0, 2, 14, 5}, {0, 0, 16, 5}, {0, 0, 16, 5}};
        for (int hour = 0; hour < due.length; hour++) {
            for (int mile = 0; mile < 4; mile++) {
                due("deep(" + hour + ", " + mile + ")", x.deep(hour, mile), due[hour][mile]);
            }
        }
        due("deep(23, 11)", x.deep(23, 11), 5);
        due("deep(-1, 0)", x.deep(-1, 0), SnowRoad.BAD);
        due("deep(24, 0)", x.deep(24, 0), SnowRoad.BAD);
        due("deep(0, -1)", x.deep(0, -1), SnowRoad.BAD);
        due("deep(0, 12)", x.deep(0, 12), SnowRoad.BAD);
        SnowRoad gone = road("hhhhhhhhhhho", "5", "", "");
        due("that of mile 11 is gone", gone.snow(0, 0), 58);
    }

    private static void ploughsOnTheirWay() {
        promise = 15;
        SnowRoad x = road("", "", "k1e;a1w", "");
        due("at(0, 0, 0)", x.at(0, 0, 0), 11);
        due("it turns when it goes on", x.at(0, 0, 1), 0);
        due("at(1, 0, 0)", x.at(1, 0, 0), 10);
        due("at(1, 0, 1)", x.at(1, 0, 1), 1);
        due("at(0, 1, 0)", x.at(0, 1, 0), 1);
        due("at(0, 1, 1)", x.at(0, 1, 1), 0);

        SnowRoad stuck = road(HEDGES, "4", "a1e", "");
        due("stuck", stuck.at(0, 0, 0), 0);
        due("it clears as much as it is strong", stuck.at(0, 0, 2), 1);
        due("deep(0, 1)", stuck.deep(0, 1), 3);
        due("three times as much is not too deep", stuck.at(1, 0, 0), 1);
        due("at(1, 0, 2)", stuck.at(1, 0, 2), 3);
        due("deep(1, 1)", stuck.deep(1, 1), 0);

        SnowRoad second = road(HEDGES, "9", "a9e;c9w", "");
        due("the first clears all", second.at(0, 0, 2), 9);
        due("nothing is left for the second", second.at(0, 1, 2), 0);
        SnowRoad resting = road("", "", "l1e", "");
        resting.event(1, 0, 0);
        due("a broken one does not turn", resting.at(0, 0, 1), 0);

        due("at(-1, 0, 0)", x.at(-1, 0, 0), SnowRoad.BAD);
        due("at(24, 0, 0)", x.at(24, 0, 0), SnowRoad.BAD);
        due("at(0, -1, 0)", x.at(0, -1, 0), SnowRoad.BAD);
        due("at(0, 2, 0)", x.at(0, 2, 0), SnowRoad.BAD);
        due("at(0, 0, -1)", x.at(0, 0, -1), SnowRoad.BAD);
        due("at(0, 0, 3)", x.at(0, 0, 3), SnowRoad.BAD);
    }

    private static void rides() {
        promise = 16;
        SnowRoad x = road("", "", "", "c");
        int[] miles = {-1, -1, 3, 6, 9, 11, 11};
        for (int hour = 0; hour < miles.length; hour++) {
            due("rides(" + hour + ", 0)", x.rides(hour, 0), miles[hour]);
        }
        due("rides(23, 0)", x.rides(23, 0), 11);
        due("4 deep is not too deep", road(HEDGES, "4", "", "a").rides(0, 0), 3);
        due("5 deep is too deep", road(HEDGES, "5", "", "a").rides(0, 0), 0);
        due("behind a plough", road(HEDGES, "5", "a9e", "a").rides(0, 0), 1);
        due("rides(-1, 0)", x.rides(-1, 0), SnowRoad.BAD);
        due("rides(24, 0)", x.rides(24, 0), SnowRoad.BAD);
        due("rides(0, -1)", x.rides(0, -1), SnowRoad.BAD);
        due("rides(0, 1)", x.rides(0, 1), SnowRoad.BAD);
    }

    private static void snows() {
        promise = 17;
        SnowRoad x = road("hhhhhhhhhhch", "401", "", "");
        due("snow(0, 0)", x.snow(0, 0), 49);
        due("snow(0, 1)", x.snow(0, 1), 1);
        due("no fall, no more in a cutting", x.snow(1, 0), 49);
        due("snow(2, 0)", x.snow(2, 0), 62);
        due("snow(2, 1)", x.snow(2, 1), 12);
        due("snow(-1, 0)", x.snow(-1, 0), SnowRoad.BAD);
        due("snow(24, 0)", x.snow(24, 0), SnowRoad.BAD);
        due("snow(0, -1)", x.snow(0, -1), SnowRoad.BAD);
        due("snow(0, 2)", x.snow(0, 2), SnowRoad.BAD);
    }

    private static void overs() {
        promise = 18;
        SnowRoad x = road("", "", "", "auvx");
        due("over(0, 0)", x.over(0, 0), 3);
        due("over(1, 0)", x.over(1, 0), 23);
        due("over(2, 0)", x.over(2, 0), SnowRoad.NONE);
        due("over(3, 0)", x.over(3, 0), SnowRoad.NONE);
        due("over(0, 1)", x.over(0, 1), 0);
        SnowRoad shut = road(HEDGES, "05", "", "ac");
        due("it waits from when it goes none", shut.over(0, 1), 23);
        due("one more waits from its hour on", shut.over(1, 1), 22);
        due("over(-1, 0)", x.over(-1, 0), SnowRoad.BAD);
        due("over(4, 0)", x.over(4, 0), SnowRoad.BAD);
        due("over(0, -1)", x.over(0, -1), SnowRoad.BAD);
        due("over(0, 2)", x.over(0, 2), SnowRoad.BAD);
    }

    private static void cleareds() {
        promise = 19;
        SnowRoad x = road(HEDGES, "4", "a1e", "");
        // A mile takes two hours: it sticks and clears 1, then goes and clears 3; after 22 hours it is at 11.
        due("cleared(0, 0)", x.cleared(0, 0), 44);
        due("cleared(0, 1)", x.cleared(0, 1), 11);
        x.event(1, 0, 0);
        due("not stuck when broken", x.cleared(0, 1), 11);
        x.event(1, 2, 0);
        due("not stuck when broken", x.cleared(0, 1), 10);
        due("cleared(-1, 0)", x.cleared(-1, 0), SnowRoad.BAD);
        due("cleared(1, 0)", x.cleared(1, 0), SnowRoad.BAD);
        due("cleared(0, -1)", x.cleared(0, -1), SnowRoad.BAD);
        due("cleared(0, 2)", x.cleared(0, 2), SnowRoad.BAD);
    }

    private static void deepests() {
        promise = 20;
        SnowRoad x = road("oochhhchhhhh", "05", "", "");
        due("deepest(0)", x.deepest(0), 16);
        due("deepest(1)", x.deepest(1), 5);
        due("deepest(2)", x.deepest(2), 2);
        SnowRoad even = road("hhhhhhcchhhh", "003", "", "");
        due("deepest(0)", even.deepest(0), 4);
        due("the first hour", even.deepest(1), 2);
        due("the least mile", even.deepest(2), 6);
        for (int what = 0; what < 3; what++) {
            due("deepest of no snow", new SnowRoad().deepest(what), 0);
        }
        due("deepest(-1)", x.deepest(-1), SnowRoad.BAD);
        due("deepest(3)", x.deepest(3), SnowRoad.BAD);
    }

    private static void shuts() {
        promise = 21;
        due("no snow", new SnowRoad().shut(), 0);
        due("4 deep", road(HEDGES, "04", "", "").shut(), 0);
        due("5 deep from hour 1 on", road(HEDGES, "05", "", "").shut(), 23);
        // Open miles lose 9 an hour to the east: mile 11 is given 5 for eleven hours, and loses it.
        SnowRoad blown = road("", "5", "", "");
        blown.wind(9);
        due("blown away", blown.shut(), 11);
    }

    private static void bests() {
        promise = 22;
        due("no ploughs", new SnowRoad().best(), SnowRoad.NONE);
        due("nothing to clear", road("", "", "a1e;b1e", "").best(), SnowRoad.NONE);
        due("one that cleared 1", road(HEDGES, "000000000000000000000001", "a9e", "").best(), 0);
        due("the second", road(HEDGES, "9", "a1e;f9e", "").best(), 1);
        // Snow falls in the last hour alone, and each plough clears one mile of it.
        SnowRoad like = road(HEDGES, "000000000000000000000002", "a9e;c9e;f9e", "");
        for (int p = 0; p < 3; p++) {
            due("cleared(" + p + ", 0)", like.cleared(p, 0), 2);
        }
        due("the least of like ones", like.best(), 0);
        like.event(1, 23, 0);
        due("the least of like ones that cleared most", like.best(), 1);
    }

    private static void begins() {
        promise = 23;
        SnowRoad x = stuckRoad();
        due("begin(0, 0)", x.begin(0, 0), 1);
        due("begin(0, 1)", x.begin(0, 1), 1);
        due("begin(1, 0)", x.begin(1, 0), 2);
        due("begin(1, 1)", x.begin(1, 1), 3);
        due("its own is as it was", x.plough(1, 0), 0);
        due("nothing has come of it", x.count(6), 0);
        due("no buses", road("", "", "e1e", "").begin(0, 0), 0);
        due("no buses", road("", "", "e1e", "").begin(0, 1), 0);
        due("all alike", road("", "", "e1e", "ab").begin(0, 0), 0);
        due("all alike", road("", "", "e1e", "ab").begin(0, 1), 2);
        due("begin(-1, 0)", x.begin(-1, 0), SnowRoad.BAD);
        due("begin(2, 0)", x.begin(2, 0), SnowRoad.BAD);
        due("begin(0, -1)", x.begin(0, -1), SnowRoad.BAD);
        due("begin(0, 2)", x.begin(0, 2), SnowRoad.BAD);
    }

    private static void hedges() {
        promise = 24;
        SnowRoad x = stuckRoad();
        due("hedge(0)", x.hedge(0), 1);
        due("hedge(1)", x.hedge(1), 9);
        due("the land is as it was", x.land(1), 0);
        // Without ploughs a hedge in place of a cutting saves the 1 more of each hour.
        SnowRoad cutting = road("hhhhchhchhhh", "11", "", "");
        due("hedge(0)", cutting.hedge(0), 4);
        due("hedge(1)", cutting.hedge(1), 26);
        due("all alike", new SnowRoad().hedge(0), 0);
        due("hedge(-1)", x.hedge(-1), SnowRoad.BAD);
        due("hedge(2)", x.hedge(2), SnowRoad.BAD);
    }

    private static void starts() {
        promise = 25;
        SnowRoad x = road("", "", "", "vx");
        due("start(0, 0)", x.start(0, 0), 0);
        due("start(0, 1)", x.start(0, 1), 3);
        SnowRoad late = road(HEDGES, "5", "a9e", "x");
        due("behind the plough", late.start(0, 0), 0);
        due("behind the plough", late.start(0, 1), 10);
        due("its own is as it was", late.bus(0), 23);
        SnowRoad shut = road(HEDGES, "5", "", "a");
        due("by none", shut.start(0, 0), SnowRoad.NONE);
        due("by none", shut.start(0, 1), SnowRoad.NONE);
        due("start(-1, 0)", x.start(-1, 0), SnowRoad.BAD);
        due("start(2, 0)", x.start(2, 0), SnowRoad.BAD);
        due("start(0, -1)", x.start(0, -1), SnowRoad.BAD);
        due("start(0, 2)", x.start(0, 2), SnowRoad.BAD);
    }

    private static void spares() {
        promise = 26;
        SnowRoad two = stuckRoad();
        due("spare(NONE)", two.spare(SnowRoad.NONE), 2);
        due("spare(0)", two.spare(0), 1);
        due("spare(1)", two.spare(1), 2);
        due("events are as they were", two.count(4), 4);
        SnowRoad zero = road(HEDGES, "00000000000005", "a9e", "j");
        zero.event(0, 0, 0);
        zero.event(1, 9, 0);
        due("over ahead of the snow", zero.spare(SnowRoad.NONE), 0);
        due("nothing to spare", zero.spare(0), SnowRoad.NONE);
        due("nothing to spare", zero.spare(1), SnowRoad.NONE);
        due("spare(-2)", zero.spare(-2), SnowRoad.BAD);
        due("spare(2)", zero.spare(2), SnowRoad.BAD);
        SnowRoad never = road(HEDGES, "5", "", "a");
        never.event(0, 0, 0);
        due("none is enough", never.spare(SnowRoad.NONE), SnowRoad.NONE);
        due("none is enough", never.spare(0), SnowRoad.NONE);
        // The plough has eleven miles to clear, an hour each: broken in 14 hours it has ten left, in 16 eight.
        spared(brokenUntil(14, false), 1, 0, SnowRoad.NONE);
        spared(brokenUntil(14, true), 1, 1, SnowRoad.NONE);
        spared(brokenUntil(16, false), 2, 0, 1);
    }

    private static void spared(SnowRoad x, int howMany, int first, int second) {
        due("spare(NONE)", x.spare(SnowRoad.NONE), howMany);
        due("spare(0)", x.spare(0), first);
        due("spare(1)", x.spare(1), second);
    }

    private static SnowRoad brokenUntil(int end, boolean thawAhead) {
        SnowRoad x = road(HEDGES, "5", "a9e", "a");
        if (thawAhead) {
            x.event(2, 3, 3);
        }
        for (int hour = 0; hour < end; hour += 2) {
            x.event(1, hour, 0);
        }
        return x;
    }

    private static void seens() {
        promise = 27;
        SnowRoad x = new SnowRoad();
        for (int i = 1; i <= 8; i++) {
            due("seen(23, 11, 99)", x.seen(23, 11, 99), i);
        }
        due("a ninth", x.seen(0, 0, 0), SnowRoad.FULL);
        due("BAD is told ahead of FULL", x.seen(24, 0, 0), SnowRoad.BAD);
        SnowRoad y = new SnowRoad();
        due("seen(-1, 0, 0)", y.seen(-1, 0, 0), SnowRoad.BAD);
        due("seen(24, 0, 0)", y.seen(24, 0, 0), SnowRoad.BAD);
        due("seen(0, -1, 0)", y.seen(0, -1, 0), SnowRoad.BAD);
        due("seen(0, 12, 0)", y.seen(0, 12, 0), SnowRoad.BAD);
        due("seen(0, 0, -1)", y.seen(0, 0, -1), SnowRoad.BAD);
        due("seen(0, 0, 100)", y.seen(0, 0, 100), SnowRoad.BAD);
        due("count(7)", y.count(7), 0);
    }

    private static void forgets() {
        promise = 28;
        SnowRoad x = new SnowRoad();
        due("forget()", x.forget(), 0);
        x.seen(0, 0, 1);
        x.seen(0, 0, 2);
        due("lie(0)", x.lie(0), 0);
        due("forget()", x.forget(), 2);
        due("lie(0)", x.lie(0), 7);
        due("count(7)", x.count(7), 0);
    }

    private static void nevers() {
        promise = 29;
        SnowRoad x = road(HEDGES, "8", "", "");
        due("no events", x.never(), 0);
        x.event(2, 0, 0);
        x.event(2, 0, 0);
        x.event(2, 0, 1);
        due("nothing seen", x.never(), 7);
        x.seen(0, 0, 4);
        due("one of the first two", x.never(), 3);
        x.seen(0, 1, 8);
        due("none alone", x.never(), 0);
        x.forget();
        x.seen(0, 0, 2);
        x.seen(0, 1, 8);
        due("the third", x.never(), 4);
        due("events are as they were", x.count(4), 3);
    }

    private static void strengths() {
        promise = 30;
        SnowRoad x = road(HEDGES, "7", "a5e", "");
        due("nothing seen", x.strengths(0), 1022);
        x.seen(0, 1, 0);
        due("strong enough for 7", x.strengths(0), 1022 - 2 - 4);
        x.forget();
        x.seen(0, 1, 6);
        due("it cleared 1", x.strengths(0), 2);
        x.forget();
        x.seen(0, 1, 7);
        due("none", x.strengths(0), 0);
        due("its own is as it was", x.plough(0, 1), 5);
        due("strengths(-1)", x.strengths(-1), SnowRoad.BAD);
        due("strengths(1)", x.strengths(1), SnowRoad.BAD);
    }

    private static void lies() {
        promise = 31;
        SnowRoad x = road(HEDGES, "3", "", "");
        due("nothing seen", x.lie(4), 7);
        x.seen(0, 4, 4);
        due("a cutting", x.lie(4), 4);
        due("another mile is carried from", x.lie(3), 0);
        x.forget();
        x.seen(0, 4, 5);
        due("the mile ahead is open", x.lie(3), 1);
        x.forget();
        x.seen(0, 4, 3);
        due("a hedge", x.lie(4), 2);
        due("a hedge or a cutting ahead", x.lie(3), 6);
        due("the land is as it was", x.land(3), 1);
        due("lie(-1)", x.lie(-1), SnowRoad.BAD);
        due("lie(12)", x.lie(12), SnowRoad.BAD);
    }

    private static void asks() {
        promise = 32;
        SnowRoad x = stuckRoad();
        due("ask(0)", x.ask(0), 3);
        due("ask(1)", x.ask(1), 11);
        due("no snow: all alike", road("", "", "a1e", "").ask(0), 0);
        // Of 7 strengths 1 and 2 leave 6 and 5, the others nothing; behind no later hour are fewer alike.
        SnowRoad seven = road(HEDGES, "7", "a1e", "");
        due("the least hour", seven.ask(0), 0);
        seven.seen(0, 1, 99);
        due("no strengths", seven.ask(0), 0);
        due("ask(-1)", x.ask(-1), SnowRoad.BAD);
        due("ask(2)", x.ask(2), SnowRoad.BAD);
    }

    private static void chances() {
        promise = 33;
        SnowRoad x = stuckRoad();
        due("chance(5, 0, 0)", x.chance(5, 0, 0), 121);
        due("chance(5, 0, 1)", x.chance(5, 0, 1), 256);
        due("chance(0, 0, 0)", x.chance(0, 0, 0), 1);
        due("chance(0, 0, 1)", x.chance(0, 0, 1), 1);
        due("chance(16, 0, 0)", x.chance(16, 0, 0), 0);
        due("chance(16, 0, 1)", x.chance(16, 0, 1), 1);
        // Mile 1 alone is too deep, unless it thaws: c by 16.
        SnowRoad one = road("hchhhhhhhhhh", "4", "", "a");
        one.event(2, 0, 1);
        int[] above = {0, 1, 1, 3, 1, 5, 3, 7, 1, 9, 5, 11, 3, 13, 7, 15, 1};
        int[] below = {1, 16, 8, 16, 4, 16, 8, 16, 2, 16, 8, 16, 4, 16, 8, 16, 1};
        for (int c = 0; c <= 16; c++) {
            due("chance(" + c + ", 0, 0)", one.chance(c, 0, 0), above[c]);
            due("chance(" + c + ", 0, 1)", one.chance(c, 0, 1), below[c]);
        }
        one.back();
        due("no events", one.chance(8, 0, 0), 0);
        due("no events", one.chance(8, 0, 1), 1);
        SnowRoad thaw = road(HEDGES, "5", "", "a");
        for (int mile = 1; mile < 9; mile++) {
            thaw.event(2, 0, mile);
        }
        due("miles 9 to 11 are shut", thaw.chance(8, 0, 0), 0);
        due("0 by 1", thaw.chance(8, 0, 1), 1);
        SnowRoad eight = road("hhhhhhhhhooo", "5", "", "a");
        for (int mile = 1; mile < 9; mile++) {
            eight.event(2, 0, mile);
        }
        due("all eight: 1 by 16^8", eight.chance(1, 0, 0), 1);
        due("all eight: 1 by 16^8", eight.chance(1, 0, 1), 1L << 32);
        due("15^8 by 16^8", eight.chance(15, 0, 0), 2562890625L);
        due("6^8 by 16^8 in lowest terms", eight.chance(6, 0, 0), 6561);
        due("6^8 by 16^8 in lowest terms", eight.chance(6, 0, 1), 1L << 24);
        long bad = Long.MIN_VALUE + 2;
        due("chance(-1, 0, 0)", x.chance(-1, 0, 0), bad);
        due("chance(17, 0, 0)", x.chance(17, 0, 0), bad);
        due("chance(0, -1, 0)", x.chance(0, -1, 0), bad);
        due("chance(0, 3, 0)", x.chance(0, 3, 0), bad);
        due("chance(0, 0, -1)", x.chance(0, 0, -1), bad);
        due("chance(0, 0, 2)", x.chance(0, 0, 2), bad);
    }

    private static void winters() {
        promise = 34;
        SnowRoad x = road(HEDGES, "9", "", "ab");
        due("no lots", x.winters(7, 0, 0), 0);
        due("no lots", x.winters(7, 0, 1), 2);
        // From seed 0: 12345, whose upper bits are 0; then 1103515245 * 12345 + 12345, wrapped.
        due("one lot", x.winters(0, 1, 0), 0);
        int second = 1103515245 * 12345 + 12345;
        due("two lots", x.winters(0, 2, 0), 12 * ((second >>> 16) % 5));
        due("a lot of a seed below 0", x.winters(-1, 1, 0), 12 * (((-1103515245 + 12345) >>> 16) % 5));
        due("24 lots", x.winters(0, 24, 0) % 12, 0);
        due("the fall is as told", x.fall(0), 9);
        due("winters(0, -1, 0)", x.winters(0, -1, 0), SnowRoad.BAD);
        due("winters(0, 25, 0)", x.winters(0, 25, 0), SnowRoad.BAD);
        due("winters(0, 0, -1)", x.winters(0, 0, -1), SnowRoad.BAD);
        due("winters(0, 0, 2)", x.winters(0, 0, 2), SnowRoad.BAD);
    }

    private static void sheets() {
        promise = 35;
        SnowRoad x = new SnowRoad();
        due("sheet(0, 0, 0)", x.sheet(0, 0, 0), 0);
        due("sheet(3, 2, 60)", x.sheet(3, 2, 60), 60);
        due("get(3, 2, 59)", x.get(3, 2, 59), 0);
        x.lay(3, 2, 1, 5);
        due("a new row", x.sheet(3, 2, 2), 2);
        due("its items are 0", x.get(3, 2, 1), 0);
        due("sheet(0, 0, 61)", x.sheet(0, 0, 61), SnowRoad.BAD);
        due("sheet(-1, 0, 1)", x.sheet(-1, 0, 1), SnowRoad.BAD);
        due("sheet(4, 0, -1)", x.sheet(4, 0, -1), SnowRoad.BAD);
        due("sheet(0, -1, 1)", x.sheet(0, -1, 1), SnowRoad.BAD);
        due("sheet(0, 3, -1)", x.sheet(0, 3, -1), SnowRoad.BAD);
        due("count(8)", x.count(8), 0);
        due("sheet(3, 0, -1)", x.sheet(3, 0, -1), -15);
        due("count(8)", x.count(8), 5);
        due("the old row stays", x.lose(3), 2);
    }

    private static void loses() {
        promise = 36;
        SnowRoad x = new SnowRoad();
        x.sheet(2, 1, 7);
        due("lose(2)", x.lose(2), 7);
        due("lose(2)", x.lose(2), -11);
        due("count(8)", x.count(8), 1);
        due("lose(-1)", x.lose(-1), SnowRoad.BAD);
        due("lose(4)", x.lose(4), SnowRoad.BAD);
        x.sheet(2, 1, 0);
        due("a row of no items", x.lose(2), 0);
    }

    private static void lays() {
        promise = 37;
        SnowRoad x = new SnowRoad();
        x.sheet(0, 0, 3);
        x.sheet(1, 1, 3);
        x.sheet(2, 2, 3);
        due("lay(0, 0, 0, 200)", x.lay(0, 0, 0, 200), 1);
        due("get(0, 0, 0)", x.get(0, 0, 0), -56);
        due("lay(1, 1, 2, 40000)", x.lay(1, 1, 2, 40000), 1);
        due("get(1, 1, 2)", x.get(1, 1, 2), -25536);
        due("lay(2, 2, 1, -2147483647)", x.lay(2, 2, 1, -2147483647), 1);
        due("get(2, 2, 1)", x.get(2, 2, 1), -2147483647);
        due("lay(3, 0, 0, 1)", x.lay(3, 0, 0, 1), -11);
        due("CAST is told ahead of INDEX", x.lay(0, 1, 3, 1), -13);
        due("count(8)", x.count(8), 3);
        due("lay(0, 0, 3, 1)", x.lay(0, 0, 3, 1), -12);
        due("lay(0, 0, -1, 1)", x.lay(0, 0, -1, 1), -12);
        due("count(8)", x.count(8), 2);
        due("lay(4, 0, 0, 0)", x.lay(4, 0, 0, 0), SnowRoad.BAD);
        due("lay(-1, 0, 0, 0)", x.lay(-1, 0, 0, 0), SnowRoad.BAD);
        due("lay(3, 3, 0, 0)", x.lay(3, 3, 0, 0), SnowRoad.BAD);
        due("lay(0, -1, 0, 0)", x.lay(0, -1, 0, 0), SnowRoad.BAD);
    }

    private static void gets() {
        promise = 38;
        SnowRoad x = new SnowRoad();
        layAll(x, 0, 1, 5, -6, 7);
        due("get(0, 1, 0)", x.get(0, 1, 0), 5);
        due("get(0, 1, 1)", x.get(0, 1, 1), -6);
        int least = Integer.MIN_VALUE;
        due("get(4, 1, 0)", x.get(4, 1, 0), least);
        due("get(-1, 1, 0)", x.get(-1, 1, 0), least);
        due("get(0, 3, 0)", x.get(0, 3, 0), least);
        due("get(0, -1, 0)", x.get(0, -1, 0), least);
        due("BAD is no finding", x.count(8), 0);
        due("get(1, 1, 0)", x.get(1, 1, 0), least);
        due("NULL", x.count(8), 1);
        due("get(0, 1, 3)", x.get(0, 1, 3), least);
        due("INDEX", x.count(8), 2);
        due("get(0, 2, 3)", x.get(0, 2, 3), least);
        due("CAST", x.count(8), 3);
        due("get(0, 1, -1)", x.get(0, 1, -1), least);
        due("INDEX", x.count(8), 2);
    }

    private static void row(SnowRoad x, int s, int form, int... want) {
        for (int i = 0; i < want.length; i++) {
            due("get(" + s + ", " + form + ", " + i + ")", x.get(s, form, i), want[i]);
        }
    }

    private static void copies() {
        promise = 39;
        SnowRoad x = new SnowRoad();
        layAll(x, 0, 0, 1, 2, 3, 4, 5);
        due("onto itself, later", x.copy(0, 0, 0, 1, 4), 1);
        row(x, 0, 0, 1, 1, 2, 3, 4);
        due("onto itself, sooner", x.copy(0, 1, 0, 0, 4), 1);
        row(x, 0, 0, 1, 2, 3, 4, 4);
        x.sheet(1, 0, 3);
        due("to another", x.copy(0, 1, 1, 1, 2), 1);
        row(x, 1, 0, 0, 2, 3);
        due("none, at the end", x.copy(0, 5, 1, 3, 0), 1);
        x.sheet(2, 1, 9);
        due("BAD", x.copy(4, 0, 3, 0, 1), SnowRoad.BAD);
        due("BAD", x.copy(0, 0, -1, 0, 1), SnowRoad.BAD);
        due("BAD", x.copy(-1, 0, 0, 0, 1), SnowRoad.BAD);
        due("BAD", x.copy(0, 0, 4, 0, 1), SnowRoad.BAD);
        due("s is LOST", x.copy(3, 0, 0, 0, 1), -11);
        due("t is LOST", x.copy(0, -1, 3, 0, 1), -11);
        due("STORE is told ahead of INDEX", x.copy(0, -1, 2, 0, 1), -14);
        due("count(8)", x.count(8), 4);
        due("below 0", x.copy(0, -1, 1, 0, 1), -12);
        due("below 0", x.copy(0, 0, 1, -1, 1), -12);
        due("below 0", x.copy(0, 0, 1, 0, -1), -12);
        due("not so many", x.copy(0, 3, 1, 0, 3), -12);
        due("not so many", x.copy(0, 0, 1, 1, 3), -12);
        due("none, behind the end", x.copy(0, 6, 1, 0, 0), -12);
        int most = Integer.MAX_VALUE;
        due("near the greatest int", x.copy(0, 1, 1, 1, most), -12);
        due("near the greatest int", x.copy(0, most, 1, most, most), -12);
        row(x, 1, 0, 0, 2, 3);
    }

    private static void writes() {
        promise = 40;
        SnowRoad x = road("oochhhhhhhhh", "5", "", "");
        x.sheet(0, 2, 3);
        due("write(2, 0)", x.write(2, 0), 3);
        row(x, 0, 2, 8, 10, 12);
        x.sheet(1, 1, 60);
        x.lay(1, 1, 24, 77);
        due("24 at most", x.write(2, 1), 24);
        row(x, 1, 1, 8, 10, 12, 14, 16, 16);
        due("get(1, 1, 23)", x.get(1, 1, 23), 16);
        due("get(1, 1, 24)", x.get(1, 1, 24), 77);
        x.sheet(2, 0, 0);
        due("no items", x.write(0, 2), 0);
        SnowRoad deep = road("c", "999999999999999", "", "");
        deep.sheet(0, 0, 24);
        deep.write(0, 0);
        due("the lowest bits", deep.get(0, 0, 12), (byte) 130);
        due("write(0, 3)", x.write(0, 3), -11);
        due("count(8)", x.count(8), 1);
        due("write(12, 3)", x.write(12, 3), SnowRoad.BAD);
        due("write(-1, 0)", x.write(-1, 0), SnowRoad.BAD);
        due("write(0, 4)", x.write(0, 4), SnowRoad.BAD);
        due("write(0, -1)", x.write(0, -1), SnowRoad.BAD);
    }

    private static void counts() {
        promise = 41;
        SnowRoad x = stuckRoad();
        x.seen(0, 0, 0);
        x.read(0);
        int[] due = {2, 3, 12 + 4 + 7 + 3, 1, 4, 20, 0, 1, 1};
        for (int what = 0; what < due.length; what++) {
            due("count(" + what + ")", x.count(what), due[what]);
        }
        due("buses that are over", road("", "", "", "auv").count(6), 2);
        x.type(2, ';');
        due("ploughs with a fault", x.count(0), 0);
        due("bytes with a fault", x.count(2), 27);
        due("count(-1)", x.count(-1), SnowRoad.BAD);
        due("count(9)", x.count(9), SnowRoad.BAD);
    }

    private static long mix(long h, long... each) {
        for (long v : each) {
            h = 31 * h + v;
        }
        return h;
    }

    /** The digest, put together from the calls that the document names. */
    private static long digestByCalls(SnowRoad x) {
        long h = 17;
        for (int i = 0; i < 8; i++) {
            h = mix(h, x.count(i));
        }
        for (int i = 0; i < 4; i++) {
            h = mix(h, x.fault(i));
        }
        for (int i = 0; i < 24; i++) {
            h = mix(h, x.fall(i), x.snow(i, 0), x.snow(i, 1));
        }
        for (int i = 0; i < 12; i++) {
            h = mix(h, x.land(i), x.deep(6, i), x.deep(20, i), x.lie(i));
        }
        for (int p = 0; p < x.count(0); p++) {
            h = mix(h, x.plough(p, 0), x.plough(p, 1), x.plough(p, 2));
            h = mix(h, x.at(0, p, 0), x.at(0, p, 1), x.at(0, p, 2));
            h = mix(h, x.at(5, p, 0), x.at(5, p, 1), x.at(5, p, 2));
            h = mix(h, x.at(14, p, 0), x.at(14, p, 1), x.at(14, p, 2));
            h = mix(h, x.cleared(p, 0), x.cleared(p, 1), x.begin(p, 0), x.begin(p, 1), x.strengths(p), x.ask(p));
        }
        for (int b = 0; b < x.count(1); b++) {
            h = mix(h, x.bus(b), x.rides(9, b), x.over(b, 0), x.over(b, 1), x.start(b, 0), x.start(b, 1));
            h = mix(h, x.chance(5, b, 0), x.chance(5, b, 1));
        }
        h = mix(h, x.deepest(0), x.deepest(1), x.deepest(2), x.shut(), x.best(), x.hedge(0), x.hedge(1));
        return mix(h, x.spare(-1), x.spare(0), x.never(), x.winters(7, 15, 0), x.winters(7, 15, 1));
    }

    private static void digests() {
        promise = 42;
        SnowRoad x = stuckRoad();
        due("digest()", x.digest(), digestByCalls(x));
        due("a second digest()", x.digest(), digestByCalls(x));
        x.lose(0);
        due("a finding does not show", x.digest(), digestByCalls(stuckRoad()));
        x.seen(3, 3, 1);
        x.type(0, 'o');
        x.type(2, ';');
        due("digest() with a fault", x.digest(), digestByCalls(x));
        due("digest() of a new object", new SnowRoad().digest(), digestByCalls(new SnowRoad()));
    }
}
