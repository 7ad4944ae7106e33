/** What is told (promises 1 to 13): each sentence that names an edge, by a test of its own. */
public final class TellingBoundariesTest extends Sentences {
    private static final int[] ROOM = {12, 24, 15, 8};
    /** For each text one that is full and well. */
    private static final String[] WHOLE = {"hchchchchchc", "987654321098765432109876", "a1e;b2w;k8e;l9w", "abcduvwx"};

    public static void main(String[] args) {
        constants();
        manyCalls();
        landText();
        fallText();
        ploughText();
        busText();
        faultsOfAllTexts();
        notEnded();
        fifthPlough();
        withAFault();
        aNewObject();
        apart();
        typing();
        typingInAFullText();
        wiping();
        undoing();
        faultCalls();
        landCalls();
        fallCalls();
        ploughCalls();
        busCalls();
        windCalls();
        eventNumbers();
        eightEvents();
        backs();
        readsOfWholeEvents();
        readsAsLongAsTheyMayBe();
        readsIntoAFullRow();
        readsRefused();
        end("what is told holds at its edges", 1, 13);
    }

    private static SnowRoad told(int text, String bytes) {
        SnowRoad x = new SnowRoad();
        tell(x, text, bytes);
        return x;
    }

    private static void constants() {
        sentence(0, "public static final int NONE = -1, BAD = -2, NOT = -3, FULL = -4;");
        due("NONE", SnowRoad.NONE, -1);
        due("BAD", SnowRoad.BAD, -2);
        due("NOT", SnowRoad.NOT, -3);
        due("FULL", SnowRoad.FULL, -4);
    }

    private static void manyCalls() {
        sentence(0, "An object is used for at most 512 calls after it has been made");
        SnowRoad x = new SnowRoad();
        for (int i = 0; i < 255; i++) {
            due("event(0, 0, 0)", x.event(0, 0, 0), 1);
            due("back()", x.back(), 0);
        }
        due("the 511th call", x.type(1, '5'), 1);
        due("the 512th call", x.deep(0, 11), 5);
        SnowRoad sheets = new SnowRoad();
        for (int i = 0; i < 511; i++) {
            due("sheet", sheets.sheet(i % 4, i % 3, 60), 60);
        }
        due("the 512th call", sheets.get(0, 508 % 3, 59), 0);
    }

    private static void landText() {
        sentence(0, "THE LAND is a text of up to 12 bytes (text 0), of MILES 0 on: o (open), h (a hedge) or c (a cutting); o of later ones.");
        SnowRoad x = new SnowRoad();
        for (int mile = 0; mile < 12; mile++) {
            due("a mile more", x.type(0, "ohc".charAt(mile % 3)), mile + 1);
            for (int m = 0; m < 12; m++) {
                due("land(" + m + ") of " + (mile + 1) + " bytes", x.land(m), m <= mile ? m % 3 : 0);
            }
        }
        due("a thirteenth", x.type(0, 'o'), FULL);
        due("land(11)", x.land(11), 2);
        for (int b = 0; b < 256; b++) {
            int land = "ohc".indexOf(b);
            due("fault of byte " + b, told(0, "" + (char) b).fault(0), land >= 0 ? NONE : 0);
            due("land of byte " + b, told(0, "" + (char) b).land(0), Math.max(land, 0));
        }
    }

    private static void fallText() {
        sentence(0, "THE FALL is a text of up to 24 figures 0 to 9 (text 1), of HOURS 0 on; 0 of later ones.");
        String figures = "789012345678901234567890";
        for (int length = 0; length <= 24; length++) {
            SnowRoad some = told(1, figures.substring(0, length));
            for (int hour = 0; hour < 24; hour++) {
                due("fall(" + hour + ") of " + length + " bytes", some.fall(hour), hour < length ? (hour + 7) % 10 : 0);
            }
        }
        SnowRoad x = told(1, figures);
        due("a twenty-fifth", x.type(1, '0'), FULL);
        for (int b = 0; b < 256; b++) {
            boolean figure = b >= '0' && b <= '9';
            due("fault of byte " + b, told(1, "" + (char) b).fault(1), figure ? NONE : 0);
            due("fall of byte " + b, told(1, "" + (char) b).fall(0), figure ? b - '0' : 0);
        }
    }

    private static void ploughText() {
        sentence(0, "PLOUGHS are a text of up to 15 bytes (text 2), 4 at most (0 on), with ; between them: a letter a to l, the MILE, "
            + "a figure 1 to 9, how STRONG, and e (eastward) or w (westward).");
        for (int b = 0; b < 256; b++) {
            char c = (char) b;
            ploughByte(c + "5e", 0, b >= 'a' && b <= 'l', 0, b - 'a');
            ploughByte("f" + c + "e", 1, b >= '1' && b <= '9', 1, b - '0');
            ploughByte("f5" + c, 2, b == 'e' || b == 'w', 2, b == 'e' ? 0 : 1);
            ploughByte("f5e" + c + "f5e", 3, b == ';', 1, 5);
        }
        SnowRoad x = told(2, WHOLE[2]);
        int[][] due = {{0, 1, 0}, {1, 2, 1}, {10, 8, 0}, {11, 9, 1}};
        due("count(0)", x.count(0), 4);
        for (int p = 0; p < 4; p++) {
            for (int what = 0; what < 3; what++) {
                due("plough(" + p + ", " + what + ")", x.plough(p, what), due[p][what]);
            }
        }
        due("plough(4, 0)", x.plough(4, 0), BAD);
        due("a sixteenth byte", x.type(2, ';'), FULL);
        for (int ploughs = 0; ploughs <= 4; ploughs++) {
            String some = WHOLE[2].substring(0, Math.max(0, 4 * ploughs - 1));
            due("count(0) of \"" + some + "\"", told(2, some).count(0), ploughs);
        }
    }

    private static void ploughByte(String text, int place, boolean well, int what, int meant) {
        SnowRoad x = told(2, text);
        due("fault of \"" + text + "\"", x.fault(2), well ? NONE : place);
        due("plough(0, " + what + ") of \"" + text + "\"", x.plough(0, what), well ? meant : BAD);
    }

    private static void busText() {
        sentence(0, "BUSES are a text of up to 8 letters a to x (text 3): the HOUR in which one starts, 0 on.");
        for (int b = 0; b < 256; b++) {
            boolean letter = b >= 'a' && b <= 'x';
            due("fault of byte " + b, told(3, "" + (char) b).fault(3), letter ? NONE : 0);
            due("bus of byte " + b, told(3, "" + (char) b).bus(0), letter ? b - 'a' : BAD);
        }
        SnowRoad x = new SnowRoad();
        for (int i = 0; i < 8; i++) {
            due("no such bus yet", x.bus(i), BAD);
            due("a bus more", x.type(3, 'x' - i), i + 1);
            due("bus(" + i + ")", x.bus(i), 23 - i);
            due("count(1)", x.count(1), i + 1);
        }
        due("a ninth", x.type(3, 'a'), FULL);
        due("bus(8)", x.bus(8), BAD);
    }

    private static void faultsOfAllTexts() {
        sentence(0, "The FAULT of a text is the place of the first byte with which it cannot go on");
        for (int text = 0; text < 4; text++) {
            due("fault of a full one", told(text, WHOLE[text]).fault(text), NONE);
            for (int place = 0; place < ROOM[text]; place++) {
                char[] bytes = WHOLE[text].toCharArray();
                bytes[place] = 'Z';
                due("one byte wrong", told(text, new String(bytes)).fault(text), place);
                bytes[ROOM[text] - 1] = 0;
                due("the first of two wrong ones", told(text, new String(bytes)).fault(text), place);
            }
        }
    }

    private static void notEnded() {
        sentence(0, "(an empty one is well; of one that is not ended, its end)");
        for (int text = 0; text < 4; text++) {
            due("an empty one", new SnowRoad().fault(text), NONE);
            for (int length = 1; length <= ROOM[text]; length++) {
                boolean ended = text != 2 || length % 4 == 3;
                due("the first " + length, told(text, WHOLE[text].substring(0, length)).fault(text), ended ? NONE : length);
            }
        }
    }

    private static void fifthPlough() {
        sentence(0, "here also of the first byte of a fifth PLOUGH");
        SnowRoad x = told(2, WHOLE[2]);
        for (char c : ";a1e".toCharArray()) {
            due("no room for a fifth", x.type(2, c), FULL);
        }
        due("fault(2)", x.fault(2), NONE);
        due("count(0)", x.count(0), 4);
        due("four without ; leave no room for another", told(2, "a1ea1ea1ea1ea1e").fault(2), 3);
    }

    private static void withAFault() {
        sentence(0, "With a FAULT a text is as if it was empty.");
        String[] well = {"hc", "95", "c4w;l9e", "ab"};
        for (int text = 0; text < 4; text++) {
            SnowRoad faulty = road(well[0], well[1], well[2], well[3]);
            SnowRoad whole = road(well[0], well[1], well[2], well[3]);
            String[] others = well.clone();
            others[text] = "";
            SnowRoad empty = road(others[0], others[1], others[2], others[3]);
            due("type a wrong byte", faulty.type(text, '!'), well[text].length() + 1);
            same("all that is meant", meaning(faulty), meaning(empty));
            due("fault(" + text + ")", faulty.fault(text), well[text].length());
            due("undo(" + text + ")", faulty.undo(text), well[text].length());
            due("without its fault", faulty.digest(), whole.digest());
        }
        SnowRoad unended = told(2, "a9e");
        due("ended", unended.count(0), 1);
        unended.type(2, ';');
        due("not ended", unended.count(0), 0);
    }

    private static String meaning(SnowRoad x) {
        StringBuilder s = new StringBuilder();
        for (int mile = 0; mile < 12; mile++) {
            s.append(x.land(mile)).append(' ').append(x.deep(23, mile)).append(' ').append(x.lie(mile)).append(' ');
        }
        for (int hour = 0; hour < 24; hour++) {
            s.append(x.fall(hour)).append(' ').append(x.snow(hour, 0)).append(' ').append(x.snow(hour, 1)).append(' ');
            s.append(x.at(hour, 0, 0)).append(' ').append(x.at(hour, 1, 2)).append(' ').append(x.rides(hour, 1)).append(' ');
        }
        for (int i = 0; i < 3; i++) {
            s.append(x.plough(i, 0)).append(' ').append(x.bus(i)).append(' ').append(x.over(i, 1)).append(' ');
            s.append(x.cleared(i, 0)).append(' ').append(x.strengths(i)).append(' ').append(x.chance(5, i, 0)).append(' ');
        }
        s.append(x.count(0)).append(' ').append(x.count(1)).append(' ').append(x.count(5)).append(' ').append(x.count(6));
        return s.append(' ').append(x.best()).append(' ').append(x.hedge(1)).append(' ').append(x.winters(7, 15, 1)).toString();
    }

    private static void aNewObject() {
        sentence(1, "No LAND, FALL, PLOUGHS, BUSES told, THE WIND 2, no EVENTS; all SHEETS are LOST.");
        SnowRoad x = new SnowRoad();
        int[] counts = {0, 0, 0, 2, 0, 0, 0, 0, 0};
        for (int what = 0; what < 9; what++) {
            due("count(" + what + ")", x.count(what), counts[what]);
        }
        for (int mile = 0; mile < 12; mile++) {
            due("land(" + mile + ")", x.land(mile), 0);
        }
        for (int hour = 0; hour < 24; hour++) {
            due("fall(" + hour + ")", x.fall(hour), 0);
        }
        due("plough(0, 0)", x.plough(0, 0), BAD);
        due("bus(0)", x.bus(0), BAD);
        due("back()", x.back(), NOT);
        due("forget()", x.forget(), 0);
        due("wind(2)", x.wind(2), 2);
        for (int s = 0; s < 4; s++) {
            due("wipe(" + s + ")", x.wipe(s), 0);
            due("lose(" + s + ")", x.lose(s), -11);
        }
    }

    private static void apart() {
        sentence(1, "A new object");
        SnowRoad one = road("c", "9", "a1e", "a");
        one.wind(9);
        one.event(2, 0, 0);
        one.seen(0, 0, 1);
        one.sheet(0, 0, 1);
        one.lose(1);
        SnowRoad other = new SnowRoad();
        due("another object knows nothing of it", other.count(2) + other.count(4) + other.count(7) + other.count(8), 0);
        due("count(3)", other.count(3), 2);
        due("lose(0)", other.lose(0), -11);
        due("the first is as it was", one.count(2), 6);
    }

    private static void typing() {
        sentence(2, "A byte (0 to 255) comes behind a text: how many.");
        for (int text = 0; text < 4; text++) {
            SnowRoad x = new SnowRoad();
            due("the least byte", x.type(text, 0), 1);
            due("the greatest byte", x.type(text, 255), 2);
            due("a byte below 0", x.type(text, -1), BAD);
            due("a byte above 255", x.type(text, 256), BAD);
            for (int far : FAR) {
                due("byte " + far, x.type(text, far), BAD);
                due("text " + far, x.type(far, 'a'), BAD);
            }
            due("count(2)", x.count(2), 2);
            due("fault(" + text + ")", x.fault(text), 0);
        }
        SnowRoad x = new SnowRoad();
        due("text -1", x.type(-1, 'o'), BAD);
        due("text 4", x.type(4, 'o'), BAD);
        due("it comes behind", told(0, "oh").land(1), 1);
        due("count(2)", x.count(2), 0);
    }

    private static void typingInAFullText() {
        sentence(2, "BAD; FULL.");
        for (int text = 0; text < 4; text++) {
            SnowRoad x = told(text, WHOLE[text]);
            long before = x.digest();
            due("no room", x.type(text, WHOLE[text].charAt(0)), FULL);
            due("no room for a wrong byte", x.type(text, 0), FULL);
            due("BAD is ahead of FULL", x.type(text, -1), BAD);
            due("BAD is ahead of FULL", x.type(text, 256), BAD);
            due("nothing has changed", x.digest(), before);
            for (int other = 0; other < 4; other++) {
                if (other != text) {
                    due("there is room in another", x.type(other, '?'), 1);
                }
            }
            x.undo(text);
            due("the last is room again", x.type(text, WHOLE[text].charAt(ROOM[text] - 1)), ROOM[text]);
            due("no room again", x.type(text, 'a'), FULL);
        }
    }

    private static void wiping() {
        sentence(3, "A text is empty: how many bytes it had. BAD.");
        for (int text = 0; text < 4; text++) {
            due("an empty one", new SnowRoad().wipe(text), 0);
            SnowRoad x = road(WHOLE[0], WHOLE[1], WHOLE[2], WHOLE[3]);
            due("a full one", x.wipe(text), ROOM[text]);
            due("the others stay", x.count(2), 59 - ROOM[text]);
            due("once more", x.wipe(text), 0);
            due("it is well", x.fault(text), NONE);
            due("there is nothing to undo", x.undo(text), NOT);
            due("there is room", x.type(text, WHOLE[text].charAt(0)), 1);
            due("one with a fault", told(text, "!!!").wipe(text), 3);
        }
        for (int far : FAR) {
            due("wipe(" + far + ")", new SnowRoad().wipe(far), BAD);
        }
        due("wipe(-1)", new SnowRoad().wipe(-1), BAD);
        due("wipe(4)", new SnowRoad().wipe(4), BAD);
    }

    private static void undoing() {
        sentence(4, "The last byte of a text is undone: how many are left. BAD; NOT: it is empty.");
        for (int text = 0; text < 4; text++) {
            SnowRoad x = told(text, WHOLE[text]);
            for (int left = ROOM[text] - 1; left >= 0; left--) {
                due("undo(" + text + ")", x.undo(text), left);
                SnowRoad shorter = told(text, WHOLE[text].substring(0, left));
                due("what is left", x.digest(), shorter.digest());
            }
            due("an empty one", x.undo(text), NOT);
            due("an empty one, again", x.undo(text), NOT);
            due("count(2)", x.count(2), 0);
            due("type", x.type(text, 'a'), 1);
        }
        for (int far : FAR) {
            due("undo(" + far + ")", new SnowRoad().undo(far), BAD);
        }
        due("undo(-1)", new SnowRoad().undo(-1), BAD);
        due("undo(4)", new SnowRoad().undo(4), BAD);
    }

    private static void faultCalls() {
        sentence(5, "The FAULT of a text; NONE. BAD.");
        SnowRoad x = road("h!", "!", "a1", "aaa!");
        int[] due = {1, 0, 2, 3};
        for (int text = 0; text < 4; text++) {
            due("fault(" + text + ")", x.fault(text), due[text]);
            due("NONE", new SnowRoad().fault(text), NONE);
        }
        for (int far : FAR) {
            due("fault(" + far + ")", x.fault(far), BAD);
        }
        due("fault(-1)", x.fault(-1), BAD);
        due("fault(4)", x.fault(4), BAD);
    }

    private static void landCalls() {
        sentence(6, "What a MILE is (0 o, 1 h, 2 c). BAD.");
        SnowRoad x = road("chhhhhhhhhho", "", "", "");
        due("land(0)", x.land(0), 2);
        due("land(10)", x.land(10), 1);
        due("land(11)", x.land(11), 0);
        for (int far : FAR) {
            due("land(" + far + ")", x.land(far), BAD);
        }
        due("land(-1)", x.land(-1), BAD);
        due("land(12)", x.land(12), BAD);
    }

    private static void fallCalls() {
        sentence(7, "THE FALL of an HOUR. BAD.");
        SnowRoad x = road("", "900000000000000000000008", "", "");
        due("fall(0)", x.fall(0), 9);
        due("fall(22)", x.fall(22), 0);
        due("fall(23)", x.fall(23), 8);
        for (int far : FAR) {
            due("fall(" + far + ")", x.fall(far), BAD);
        }
        due("fall(-1)", x.fall(-1), BAD);
        due("fall(24)", x.fall(24), BAD);
    }

    private static void ploughCalls() {
        sentence(8, "The MILE (what = 0), how STRONG (1), which way (2: 0 e, 1 w) of a PLOUGH as told. BAD.");
        for (int ploughs = 0; ploughs <= 4; ploughs++) {
            SnowRoad x = told(2, WHOLE[2].substring(0, Math.max(0, 4 * ploughs - 1)));
            for (int p = 0; p < 4; p++) {
                due("plough(" + p + ", 1) of " + ploughs, x.plough(p, 1), p < ploughs ? WHOLE[2].charAt(4 * p + 1) - '0' : BAD);
            }
            due("plough(-1, 0)", x.plough(-1, 0), BAD);
            due("plough(4, 0)", x.plough(4, 0), BAD);
        }
        SnowRoad x = told(2, WHOLE[2]);
        for (int far : FAR) {
            due("plough(" + far + ", 0)", x.plough(far, 0), BAD);
            due("plough(0, " + far + ")", x.plough(0, far), BAD);
        }
        due("plough(0, -1)", x.plough(0, -1), BAD);
        due("plough(0, 3)", x.plough(0, 3), BAD);
        x.digest();
        due("as told, wherever it is by now", x.plough(1, 0), 1);
        due("as told, though it turns", told(2, "a1w").plough(0, 2), 1);
    }

    private static void busCalls() {
        sentence(9, "The HOUR in which a BUS starts, as told. BAD.");
        SnowRoad x = told(3, "ax");
        due("the first hour", x.bus(0), 0);
        due("the last hour", x.bus(1), 23);
        due("bus(2)", x.bus(2), BAD);
        due("bus(-1)", x.bus(-1), BAD);
        for (int far : FAR) {
            due("bus(" + far + ")", x.bus(far), BAD);
        }
        due("of none", new SnowRoad().bus(0), BAD);
    }

    private static void windCalls() {
        sentence(0, "THE WIND is 0 to 9 (2 at first).");
        due("at first", new SnowRoad().wind(0), 2);
        sentence(10, "THE WIND: what it was. BAD.");
        SnowRoad x = new SnowRoad();
        int was = 2;
        for (int v = 0; v <= 9; v++) {
            due("wind(" + v + ")", x.wind(v), was);
            was = v;
        }
        due("the same again", x.wind(9), 9);
        due("wind(10)", x.wind(10), BAD);
        due("wind(-1)", x.wind(-1), BAD);
        for (int far : FAR) {
            due("wind(" + far + ")", x.wind(far), BAD);
        }
        due("it is as it was", x.count(3), 9);
        SnowRoad snowed = road("ohhhhhhhhhhh", "9", "", "");
        due("deep(0, 0) by wind 2", snowed.deep(0, 0), 7);
        for (int v = 0; v <= 9; v++) {
            snowed.wind(v);
            due("deep(0, 0) by wind " + v, snowed.deep(0, 0), 9 - v);
        }
    }

    private static void eventNumbers() {
        sentence(0, "EVENTS, 8 at most (0 on): a kind, an HOUR, a number 0 to 11");
        for (int kind = 0; kind < 3; kind++) {
            due("the least numbers", new SnowRoad().event(kind, 0, 0), 1);
            due("the greatest numbers", new SnowRoad().event(kind, 23, 11), 1);
            due("a number above 11, of any kind", new SnowRoad().event(kind, 0, 12), BAD);
            due("a number below 0, of any kind", new SnowRoad().event(kind, 0, -1), BAD);
        }
        SnowRoad x = new SnowRoad();
        due("kind -1", x.event(-1, 0, 0), BAD);
        due("kind 3", x.event(3, 0, 0), BAD);
        due("hour -1", x.event(0, -1, 0), BAD);
        due("hour 24", x.event(0, 24, 0), BAD);
        for (int far : FAR) {
            due("kind " + far, x.event(far, 0, 0), BAD);
            due("hour " + far, x.event(0, far, 0), BAD);
            due("number " + far, x.event(0, 0, far), BAD);
        }
        due("count(4)", x.count(4), 0);
    }

    private static void eightEvents() {
        sentence(11, "An EVENT more: how many. BAD; FULL.");
        SnowRoad x = road(HEDGES, "8", "", "");
        for (int i = 1; i <= 8; i++) {
            due("event", x.event(2, 0, i), i);
        }
        long before = x.digest();
        due("a ninth", x.event(2, 0, 0), FULL);
        due("BAD is ahead of FULL", x.event(3, 0, 0), BAD);
        due("BAD is ahead of FULL", x.event(2, 24, 0), BAD);
        due("BAD is ahead of FULL", x.event(2, 0, 12), BAD);
        due("nothing has changed", x.digest(), before);
        depths(x, 0, 0, 8, 4, 4, 4, 4, 4, 4, 4, 4, 8, 8, 8);
        due("back()", x.back(), 7);
        due("there is room for one again", x.event(2, 0, 11), 8);
        depths(x, 0, 7, 4, 8, 8, 8, 4);
    }

    private static void backs() {
        sentence(12, "The last EVENT is undone: how many are left. NOT: there is none.");
        due("none at first", new SnowRoad().back(), NOT);
        SnowRoad x = road(HEDGES, "8", "", "");
        for (int i = 0; i < 8; i++) {
            x.event(2, 0, i);
        }
        for (int left = 7; left >= 0; left--) {
            due("back()", x.back(), left);
            for (int mile = 0; mile < 8; mile++) {
                due("deep(0, " + mile + ") with " + left, x.deep(0, mile), mile < left ? 4 : 8);
            }
        }
        due("none is left", x.back(), NOT);
        due("none is left, again", x.back(), NOT);
        due("event", x.event(0, 0, 0), 1);
    }

    private static void readsOfWholeEvents() {
        sentence(13, "EVENTS from a SHEET: its items, three for each, as many as are whole");
        for (int items = 0; items <= 24; items++) {
            SnowRoad x = road(HEDGES, "8", "", "");
            for (int form = 0; form < 3; form++) {
                int[] row = new int[items];
                for (int i = 0; i < items; i++) {
                    row[i] = i % 3 == 0 ? 2 : i % 3 == 1 ? 0 : i / 3;
                }
                layAll(x, form, form, row);
                due("read of " + items, x.read(form), items / 3);
                due("count(4)", x.count(4), items / 3);
                for (int mile = 0; mile < 8; mile++) {
                    due("deep(0, " + mile + ")", x.deep(0, mile), mile < items / 3 ? 4 : 8);
                }
                for (int i = 0; i < items / 3; i++) {
                    x.back();
                }
            }
        }
    }

    private static void readsAsLongAsTheyMayBe() {
        sentence(13, "as long as each may be: how many.");
        int[][] wrong = {{-1, 0, 0}, {3, 0, 0}, {0, -1, 0}, {0, 24, 0}, {0, 0, -1}, {0, 0, 12}};
        for (int[] one : wrong) {
            SnowRoad x = new SnowRoad();
            layAll(x, 0, 0, one[0], one[1], one[2], 0, 0, 0);
            due("none behind a first that may not be", x.read(0), 0);
            layAll(x, 1, 1, 2, 23, 11, one[0], one[1], one[2], 0, 0, 0);
            due("those ahead of it", x.read(1), 1);
            due("count(4)", x.count(4), 1);
            due("no finding", x.count(8), 0);
        }
        SnowRoad bytes = new SnowRoad();
        layAll(bytes, 0, 0, 256, 24 - 256, 0);
        due("as the items are, by their lowest bits", bytes.read(0), 0);
        layAll(bytes, 0, 0, 256, 23 - 256, 267);
        due("as the items are, by their lowest bits", bytes.read(0), 1);
        layAll(bytes, 0, 2, 256, 0, 0);
        due("an int has all its bits", bytes.read(0), 0);
    }

    private static void readsIntoAFullRow() {
        sentence(13, "as long as each may be");
        SnowRoad x = new SnowRoad();
        x.sheet(0, 0, 60);
        due("twenty: eight may be", x.read(0), 8);
        due("none more", x.read(0), 0);
        due("count(4)", x.count(4), 8);
        x.back();
        due("one more", x.read(0), 1);
        due("behind those that are there", x.count(4), 8);
        due("no finding", x.count(8), 0);
        SnowRoad behind = road(HEDGES, "8", "", "");
        behind.event(2, 0, 11);
        layAll(behind, 0, 0, 2, 0, 0);
        due("one more", behind.read(0), 1);
        due("the first stays", behind.deep(0, 11), 4);
        due("the second came", behind.deep(0, 0), 4);
        due("the second is the last", behind.back(), 1);
        due("the first stays", behind.deep(0, 11), 4);
        due("the second is undone", behind.deep(0, 0), 8);
        due("the sheet is as it was", behind.get(0, 0, 0), 2);
    }

    private static void readsRefused() {
        sentence(13, "BAD; NULL.");
        SnowRoad x = new SnowRoad();
        for (int far : FAR) {
            due("read(" + far + ")", x.read(far), BAD);
        }
        due("read(-1)", x.read(-1), BAD);
        due("read(4)", x.read(4), BAD);
        due("BAD is no finding", x.count(8), 0);
        for (int s = 0; s < 4; s++) {
            due("a sheet that is lost", x.read(s), -11);
            due("count(8)", x.count(8), 1);
            x.sheet(s, 0, 0);
            due("an empty one", x.read(s), 0);
        }
        x.sheet(0, 0, 3);
        x.lose(0);
        due("lost again", x.read(0), -11);
        due("count(4)", x.count(4), 0);
    }
}
