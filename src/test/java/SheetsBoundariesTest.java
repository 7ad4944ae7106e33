import java.math.BigInteger;
import java.util.ArrayList;
import java.util.List;
import java.util.function.IntToLongFunction;

/** Sheets, counts and the digest (promises 35 to 42): each sentence that names an edge, by a test of its own. */
public final class SheetsBoundariesTest extends Sentences {
    private static final int NULL = -11, INDEX = -12, CAST = -13, STORE = -14, SIZE = -15;

    public static void main(String[] args) {
        lostAtFirst();
        sheetSizes();
        sheetCalls();
        newRows();
        loses();
        lowestBits();
        layIndices();
        layCalls();
        getCalls();
        getFindings();
        copiesOfNone();
        copiesWithin();
        copiesBetween();
        copyIndices();
        copyCalls();
        writeLengths();
        writeLowestBits();
        writeCalls();
        findings();
        counts();
        countCalls();
        digestOfANewObject();
        digestWraps();
        digestOfAFullObject();
        end("sheets, counts and the digest hold at their edges", 35, 42);
    }

    private static void bad(String call, IntToLongFunction of, int end) {
        due(call + " of -1", of.applyAsLong(-1), BAD);
        due(call + " of " + end, of.applyAsLong(end), BAD);
        for (int far : FAR) {
            due(call + " of " + far, of.applyAsLong(far), BAD);
        }
    }

    private static void lostAtFirst() {
        sentence(0, "SHEETS 0 .. 3 are LOST (at first) or a row of a FORM: 0 bytes, 1 shorts, 2 ints, of 0 to 60 items (0 at first).");
        for (int s = 0; s < 4; s++) {
            SnowRoad x = new SnowRoad();
            due("lose", x.lose(s), NULL);
            due("lay", x.lay(s, 0, 0, 0), NULL);
            due("get", x.get(s, 0, 0), LEAST);
            due("copy", x.copy(s, 0, s, 0, 0), NULL);
            due("write", x.write(0, s), NULL);
            due("read", x.read(s), NULL);
            for (int form = 0; form < 3; form++) {
                due("sheet", x.sheet(s, form, 60), 60);
                for (int i = 0; i < 60; i++) {
                    due("item " + i + " at first", x.get(s, form, i), 0);
                }
            }
        }
    }

    private static void sheetSizes() {
        sentence(35, "A SHEET is a new row of a FORM with n items: n.");
        for (int n = 0; n <= 60; n++) {
            SnowRoad x = new SnowRoad();
            for (int form = 0; form < 3; form++) {
                due("sheet(3, " + form + ", " + n + ")", x.sheet(3, form, n), n);
                due("its first", x.lay(3, form, 0, 7), n > 0 ? 1 : INDEX);
                due("its last", x.lay(3, form, n - 1, 8), n > 0 ? 1 : INDEX);
                due("none behind", x.lay(3, form, n, 9), INDEX);
            }
            due("lose(3)", x.lose(3), n);
        }
    }

    private static void sheetCalls() {
        sentence(35, "BAD: SHEET, FORM, above 60; SIZE.");
        SnowRoad x = new SnowRoad();
        bad("sheet", s -> x.sheet(s, 0, 1), 4);
        bad("sheet", form -> x.sheet(0, form, 1), 3);
        bad("BAD is ahead of SIZE: sheet", s -> x.sheet(s, 0, -1), 4);
        bad("BAD is ahead of SIZE: sheet", form -> x.sheet(0, form, -1), 3);
        int[] tooMany = {61, 62, 255, 65536, MOST - 1, MOST};
        for (int n : tooMany) {
            due("sheet(0, 0, " + n + ")", x.sheet(0, 0, n), BAD);
        }
        due("BAD is no finding", x.count(8), 0);
        due("it is still lost", x.get(0, 0, 0), LEAST);
        due("it is still lost", x.count(8), 1);
        int[] tooFew = {-1, -2, -60, LEAST, LEAST + 1};
        for (int n : tooFew) {
            due("sheet(0, 0, " + n + ")", x.sheet(0, 0, n), SIZE);
            due("count(8)", x.count(8), 5);
        }
        due("it is still lost", x.lose(0), NULL);
        layAll(x, 1, 1, 5, 6);
        due("SIZE", x.sheet(1, 0, -1), SIZE);
        due("BAD", x.sheet(1, 0, 61), BAD);
        row(x, 1, 1, 5, 6);
        due("the row that was stays", x.lose(1), 2);
    }

    private static void newRows() {
        sentence(35, "a new row");
        SnowRoad x = new SnowRoad();
        layAll(x, 0, 2, -1, MOST, LEAST);
        due("of the same form, longer", x.sheet(0, 2, 60), 60);
        row(x, 0, 2, 0, 0, 0, 0);
        layAll(x, 0, 2, 1, 2, 3);
        x.sheet(0, 2, 1);
        due("shorter", x.get(0, 2, 1), LEAST);
        x.sheet(0, 2, 3);
        row(x, 0, 2, 0, 0, 0);
        layAll(x, 0, 2, 1, 2, 3);
        x.sheet(0, 0, 3);
        due("of another form", x.get(0, 2, 0), LEAST);
        row(x, 0, 0, 0, 0, 0);
        layAll(x, 0, 1, 1, 2, 3);
        x.lose(0);
        x.sheet(0, 1, 3);
        row(x, 0, 1, 0, 0, 0);
        layAll(x, 1, 1, 9, 9, 9);
        row(x, 0, 1, 0, 0, 0);
    }

    private static void loses() {
        sentence(36, "It is LOST: how many items it had. BAD; NULL.");
        SnowRoad x = new SnowRoad();
        for (int s = 0; s < 4; s++) {
            x.sheet(s, s % 3, 20 * s);
        }
        for (int s = 0; s < 4; s++) {
            due("lose(" + s + ")", x.lose(s), 20 * s);
            due("count(8)", x.count(8), s == 0 ? 0 : 1);
            due("once more", x.lose(s), NULL);
            due("count(8)", x.count(8), 1);
        }
        bad("lose", s -> x.lose(s), 4);
        x.sheet(0, 0, 1);
        x.sheet(1, 0, 1);
        due("lose(0)", x.lose(0), 1);
        due("the other stays", x.get(1, 0, 0), 0);
    }

    private static void lowestBits() {
        sentence(37, "Item i, treated as of a FORM, becomes v (the lowest bits that it has): 1.");
        int[] v = {0, 1, -1, 127, 128, 255, 256, -128, -129, 32767, 32768, 65535, 65536, -32768, -32769, MOST, LEAST};
        int[] bytes = {0, 1, -1, 127, -128, -1, 0, -128, 127, -1, 0, -1, 0, 0, -1, -1, 0};
        int[] shorts = {0, 1, -1, 127, 128, 255, 256, -128, -129, 32767, -32768, -1, 0, -32768, 32767, -1, 0};
        int[][] due = {bytes, shorts, v};
        for (int form = 0; form < 3; form++) {
            SnowRoad x = new SnowRoad();
            x.sheet(0, form, v.length);
            for (int i = 0; i < v.length; i++) {
                due("lay " + v[i], x.lay(0, form, i, v[i]), 1);
            }
            row(x, 0, form, due[form]);
        }
    }

    private static void layIndices() {
        sentence(37, "INDEX");
        SnowRoad x = new SnowRoad();
        for (int n : new int[] {0, 1, 59, 60}) {
            x.sheet(2, 1, n);
            int[] outside = {LEAST, -2, -1, n, n + 1, 60, 61, 65536, MOST};
            for (int i : outside) {
                due("lay item " + i + " of " + n, x.lay(2, 1, i, 5), INDEX);
                due("count(8)", x.count(8), 2);
                x.sheet(0, 0, -1);
                due("get item " + i + " of " + n, x.get(2, 1, i), LEAST);
                due("count(8)", x.count(8), 2);
                x.sheet(0, 0, -1);
            }
            for (int i = 0; i < n; i += 7) {
                due("nothing has changed", x.get(2, 1, i), 0);
            }
        }
    }

    private static void layCalls() {
        sentence(37, "BAD; NULL; CAST; INDEX.");
        SnowRoad x = new SnowRoad();
        layAll(x, 0, 0, 5);
        bad("lay", s -> x.lay(s, 0, 0, 1), 4);
        bad("lay", form -> x.lay(0, form, 0, 1), 3);
        bad("BAD is ahead of NULL: lay", form -> x.lay(1, form, 0, 1), 3);
        bad("BAD is ahead of INDEX: lay", form -> x.lay(0, form, -1, 1), 3);
        due("BAD is no finding", x.count(8), 0);
        due("NULL is ahead of INDEX", x.lay(1, 0, -1, 1), NULL);
        for (int form = 0; form < 3; form++) {
            x.sheet(2, form, 1);
            for (int other = 0; other < 3; other++) {
                due("form " + form + " as " + other, x.lay(2, other, 0, 1), form == other ? 1 : CAST);
                due("CAST is ahead of INDEX", x.lay(2, other, 1, 1), form == other ? INDEX : CAST);
                due("CAST is ahead of INDEX", x.lay(2, other, -1, 1), form == other ? INDEX : CAST);
            }
        }
        row(x, 0, 0, 5);
    }

    private static void getCalls() {
        sentence(38, "BAD: the least int");
        SnowRoad x = new SnowRoad();
        layAll(x, 0, 0, 5);
        due("get(-1, 0, 0)", x.get(-1, 0, 0), LEAST);
        due("get(4, 0, 0)", x.get(4, 0, 0), LEAST);
        due("get(0, -1, 0)", x.get(0, -1, 0), LEAST);
        due("get(0, 3, 0)", x.get(0, 3, 0), LEAST);
        due("get(1, 3, -1)", x.get(1, 3, -1), LEAST);
        for (int far : FAR) {
            due("get(" + far + ", 0, 0)", x.get(far, 0, 0), LEAST);
            due("get(0, " + far + ", 0)", x.get(0, far, 0), LEAST);
        }
        due("BAD is no finding", x.count(8), 0);
        sentence(38, "Item i of it.");
        due("get(0, 0, 0)", x.get(0, 0, 0), 5);
        layAll(x, 3, 2, LEAST, MOST);
        row(x, 3, 2, LEAST, MOST);
        due("an item that is the least int is no finding", x.count(8), 0);
    }

    private static void getFindings() {
        sentence(38, "so are NULL, CAST, INDEX (count() 8 tells).");
        SnowRoad x = new SnowRoad();
        layAll(x, 0, 1, 5, 6, 7);
        int[][] calls = {{1, 1, 0, 1}, {1, 0, -1, 1}, {0, 1, 3, 2}, {0, 1, -1, 2}, {0, 0, 0, 3}, {0, 2, 0, 3}, {0, 2, 3, 3}, {0, 0, -1, 3}};
        for (int[] c : calls) {
            x.sheet(2, 0, -1);
            due("get(" + c[0] + ", " + c[1] + ", " + c[2] + ")", x.get(c[0], c[1], c[2]), LEAST);
            due("count(8)", x.count(8), c[3]);
        }
        row(x, 0, 1, 5, 6, 7);
    }

    private static void copiesOfNone() {
        sentence(39, "n items of SHEET s, from i on, come to SHEET t (perhaps s, as they were), from j on: 1.");
        SnowRoad x = new SnowRoad();
        layAll(x, 0, 0, 1, 2, 3);
        layAll(x, 1, 0, 4, 5);
        due("none", x.copy(0, 0, 1, 0, 0), 1);
        due("none, from the end to the end", x.copy(0, 3, 1, 2, 0), 1);
        due("none, from behind the end", x.copy(0, 4, 1, 0, 0), INDEX);
        due("none, to behind the end", x.copy(0, 0, 1, 3, 0), INDEX);
        x.sheet(2, 0, 0);
        due("none of none", x.copy(2, 0, 2, 0, 0), 1);
        due("one of none", x.copy(2, 0, 0, 0, 1), INDEX);
        due("one to none", x.copy(0, 0, 2, 0, 1), INDEX);
        row(x, 0, 0, 1, 2, 3);
        row(x, 1, 0, 4, 5);
    }

    private static void copiesWithin() {
        sentence(39, "(perhaps s, as they were)");
        for (int form = 0; form < 3; form++) {
            for (int i = 0; i <= 5; i++) {
                for (int j = 0; j <= 5; j++) {
                    for (int n = 0; n <= 5 - Math.max(i, j); n++) {
                        SnowRoad x = new SnowRoad();
                        layAll(x, 2, form, 10, 11, 12, 13, 14);
                        due("copy(2, " + i + ", 2, " + j + ", " + n + ")", x.copy(2, i, 2, j, n), 1);
                        int[] want = {10, 11, 12, 13, 14};
                        for (int k = 0; k < n; k++) {
                            want[j + k] = 10 + i + k;
                        }
                        row(x, 2, form, want);
                    }
                }
            }
        }
    }

    private static void copiesBetween() {
        sentence(39, "from j on: 1.");
        SnowRoad x = new SnowRoad();
        layAll(x, 0, 1, 1, -2, 3);
        layAll(x, 3, 1, 9, 9, 9, 9);
        due("all", x.copy(0, 0, 3, 1, 3), 1);
        row(x, 3, 1, 9, 1, -2, 3);
        row(x, 0, 1, 1, -2, 3);
        due("the last to the first", x.copy(0, 2, 3, 0, 1), 1);
        row(x, 3, 1, 3, 1, -2, 3);
        x.lay(0, 1, 0, 77);
        row(x, 3, 1, 3, 1, -2, 3);
        x.sheet(1, 2, 60);
        x.sheet(2, 2, 60);
        x.lay(1, 2, 0, LEAST);
        x.lay(1, 2, 59, MOST);
        due("all sixty", x.copy(1, 0, 2, 0, 60), 1);
        due("the first of sixty", x.get(2, 2, 0), LEAST);
        due("the last of sixty", x.get(2, 2, 59), MOST);
    }

    private static void copyIndices() {
        sentence(39, "INDEX: below 0, not so many.");
        int[][] calls = {{-1, 0, 1}, {0, -1, 1}, {0, 0, -1}, {LEAST, 0, 0}, {0, LEAST, 0}, {0, 0, LEAST}, {-1, -1, -1}, {3, 0, 1}, {0, 2, 1}, {0, 0, 3},
            {1, 0, 3}, {2, 0, 2}, {0, 1, 2}, {4, 0, 0}, {0, 3, 0}, {1, 0, MOST}, {0, 1, MOST}, {MOST, 0, 1}, {0, MOST, 1}, {MOST, MOST, MOST},
            {MOST, 0, LEAST}, {0, 0, MOST}, {1, 1, -1}};
        for (int[] c : calls) {
            SnowRoad x = new SnowRoad();
            layAll(x, 0, 0, 1, 2, 3);
            layAll(x, 1, 0, 4, 5);
            due("copy(0, " + c[0] + ", 1, " + c[1] + ", " + c[2] + ")", x.copy(0, c[0], 1, c[1], c[2]), INDEX);
            due("count(8)", x.count(8), 2);
            row(x, 0, 0, 1, 2, 3);
            row(x, 1, 0, 4, 5);
        }
        SnowRoad self = new SnowRoad();
        layAll(self, 0, 0, 1, 2, 3);
        due("within itself", self.copy(0, 0, 0, 1, 3), INDEX);
        row(self, 0, 0, 1, 2, 3);
    }

    private static void copyCalls() {
        sentence(39, "BAD: the SHEETS; NULL: s, t; STORE; INDEX");
        SnowRoad x = new SnowRoad();
        layAll(x, 0, 0, 5);
        layAll(x, 1, 1, 6);
        layAll(x, 2, 2, 7);
        bad("copy", s -> x.copy(s, 0, 0, 0, 1), 4);
        bad("copy", t -> x.copy(0, 0, t, 0, 1), 4);
        bad("BAD is ahead of NULL: copy", s -> x.copy(s, 0, 3, 0, 1), 4);
        bad("BAD is ahead of NULL: copy", t -> x.copy(3, 0, t, 0, 1), 4);
        due("BAD is no finding", x.count(8), 0);
        due("s is lost", x.copy(3, 0, 0, 0, 1), NULL);
        due("t is lost", x.copy(0, 0, 3, 0, 1), NULL);
        due("both are lost", x.copy(3, 0, 3, 0, 1), NULL);
        due("NULL is ahead of INDEX", x.copy(0, -1, 3, 0, 1), NULL);
        due("NULL is ahead of INDEX, though none are wanted", x.copy(3, 0, 0, 0, 0), NULL);
        due("count(8)", x.count(8), 1);
        for (int s = 0; s < 3; s++) {
            for (int t = 0; t < 3; t++) {
                due("unlike forms", x.copy(s, 0, t, 0, 1), s == t ? 1 : STORE);
                due("STORE, though none are wanted", x.copy(s, 0, t, 0, 0), s == t ? 1 : STORE);
                due("STORE is ahead of INDEX", x.copy(s, -1, t, 0, 1), s == t ? INDEX : STORE);
                due("STORE is ahead of INDEX", x.copy(s, 0, t, 0, 2), s == t ? INDEX : STORE);
                due("count(8)", x.count(8), s == t ? 2 : 4);
            }
        }
        row(x, 0, 0, 5);
        row(x, 1, 1, 6);
        row(x, 2, 2, 7);
    }

    private static void writeLengths() {
        sentence(40, "How deep a MILE is behind HOURS 0 on comes to a SHEET from item 0 on, as many as there are items, 24 at most: how many.");
        for (int items = 0; items <= 60; items++) {
            SnowRoad x = road("hhhhhhhhhhhc", "1".repeat(24), "", "");
            x.sheet(1, 2, items);
            for (int i = 0; i < items; i++) {
                x.lay(1, 2, i, 777);
            }
            due("write(11, 1) of " + items, x.write(11, 1), Math.min(items, 24));
            for (int i = 0; i < items; i++) {
                due("item " + i, x.get(1, 2, i), i < 24 ? 2 * i + 2 : 777);
            }
            due("write(0, 1) of " + items, x.write(0, 1), Math.min(items, 24));
            due("the first", x.get(1, 2, 0), items > 0 ? 1 : LEAST);
        }
    }

    private static void writeLowestBits() {
        sentence(40, "comes to a SHEET from item 0 on");
        int[][] due = {{10, 120, -126, -16}, {10, 120, 130, 240}, {10, 120, 130, 240}};
        int[] hours = {0, 11, 12, 23};
        for (int form = 0; form < 3; form++) {
            SnowRoad x = road("cccccccccccc", "9".repeat(24), "", "");
            x.sheet(0, form, 24);
            due("write(5, 0)", x.write(5, 0), 24);
            for (int k = 0; k < 4; k++) {
                due("form " + form + ", item " + hours[k], x.get(0, form, hours[k]), due[form][k]);
            }
        }
    }

    private static void writeCalls() {
        sentence(40, "BAD; NULL.");
        SnowRoad x = new SnowRoad();
        layAll(x, 0, 0, 5);
        bad("write", mile -> x.write(mile, 0), 12);
        bad("write", s -> x.write(0, s), 4);
        bad("BAD is ahead of NULL: write", mile -> x.write(mile, 1), 12);
        due("BAD is no finding", x.count(8), 0);
        row(x, 0, 0, 5);
        due("a sheet that is lost", x.write(0, 1), NULL);
        due("count(8)", x.count(8), 1);
        due("write(0, 0)", x.write(0, 0), 1);
        row(x, 0, 0, 0);
    }

    private static void findings() {
        sentence(0, "FINDINGS (answers -10 less the number; they change nothing but count() 8): 1 NULL: the SHEET is LOST; 2 INDEX: there is no such item; "
            + "3 CAST: it has another FORM; 4 STORE: unlike FORMS; 5 SIZE: below 0.");
        SnowRoad x = new SnowRoad();
        layAll(x, 0, 0, 5);
        layAll(x, 1, 1, 6);
        long before = x.digest();
        due("before any", x.count(8), 0);
        due("NULL", x.lose(3), -11);
        due("1", x.count(8), 1);
        due("INDEX", x.lay(0, 0, 1, 1), -12);
        due("2", x.count(8), 2);
        due("CAST", x.lay(0, 1, 0, 1), -13);
        due("3", x.count(8), 3);
        due("STORE", x.copy(0, 0, 1, 0, 1), -14);
        due("4", x.count(8), 4);
        due("SIZE", x.sheet(0, 0, -1), -15);
        due("5", x.count(8), 5);
        due("they change nothing else", x.digest(), before);
        row(x, 0, 0, 5);
        row(x, 1, 1, 6);
        due("other calls leave it", x.count(8), 5);
        x.lay(0, 0, 0, 1);
        x.type(9, 9);
        x.back();
        due("so do other refusals", x.count(8), 5);
        due("the latest counts", x.read(2), -11);
        due("the latest counts", x.count(8), 1);
    }

    private static void counts() {
        sentence(41, "0 PLOUGHS, 1 BUSES, 2 bytes of all texts, 3 THE WIND, 4 EVENTS, 5 SNOW behind HOUR 23, 6 how many BUSES are OVER, 7 SEEN, "
            + "8 the number of the latest FINDING (0 before any).");
        int[] none = {0, 0, 0, 2, 0, 0, 0, 0, 0};
        for (int what = 0; what < 9; what++) {
            due("count(" + what + ") of none", new SnowRoad().count(what), none[what]);
        }
        SnowRoad full = road("cccccccccccc", later(4, "9".repeat(20)), "a1e;a1e;a1e;a1e", "aaaaaaaa");
        full.wind(9);
        for (int i = 0; i < 8; i++) {
            full.event(0, 0, 0);
            full.seen(0, 0, 0);
        }
        full.sheet(0, 0, -1);
        int[] most = {4, 8, 59, 9, 8, 12 * 200 - 4 * 20, 8, 8, 5};
        for (int what = 0; what < 9; what++) {
            due("count(" + what + ") of a full one", full.count(what), most[what]);
        }
        due("bytes of texts with faults count too", road("!!", "!", "!!!", "!").count(2), 7);
        due("one that is over in hour 23 counts", road("", "", "", "uv").count(6), 1);
    }

    private static void countCalls() {
        sentence(41, "BAD.");
        SnowRoad x = new SnowRoad();
        bad("count", what -> x.count(what), 9);
        due("BAD is no finding", x.count(8), 0);
    }

    private static long digestOf(List<Long> each) {
        BigInteger h = BigInteger.valueOf(17);
        for (long v : each) {
            h = h.multiply(BigInteger.valueOf(31)).add(BigInteger.valueOf(v));
        }
        return h.longValue();
    }

    private static void add(List<Long> row, long... each) {
        for (long v : each) {
            row.add(v);
        }
    }

    private static void digestOfANewObject() {
        sentence(42, "h is 17; h becomes 31 h and each of: count() 0 to 7; of texts fault(); of HOURS 0 to 23 fall(), snow() 0, 1; "
            + "of MILES land(), deep(6, it), deep(20, it), lie()");
        List<Long> row = new ArrayList<>();
        add(row, 0, 0, 0, 2, 0, 0, 0, 0, -1, -1, -1, -1);
        for (int hour = 0; hour < 24; hour++) {
            add(row, 0, 0, 0);
        }
        for (int mile = 0; mile < 12; mile++) {
            add(row, 0, 0, 0, 7);
        }
        SnowRoad x = new SnowRoad();
        add(row, 0, 0, 0, 0, -1, 0, 0, 0, -1, 0, x.winters(7, 15, 0), 0);
        due("digest()", x.digest(), digestOf(row));
        due("digest() again", x.digest(), digestOf(row));
        x.lose(0);
        x.sheet(1, 1, 9);
        due("findings and sheets do not show", x.digest(), digestOf(row));
    }

    private static void digestWraps() {
        sentence(42, "as longs that wrap.");
        // One text of 1 byte more: 31 to the power of all that comes behind it, by 2 to the 64th.
        SnowRoad x = new SnowRoad();
        SnowRoad y = new SnowRoad();
        y.type(1, '0');
        int behind = 5 + 4 + 24 * 3 + 12 * 4 + 12;
        due("a byte more", y.digest() - x.digest(), BigInteger.valueOf(31).pow(behind).longValue());
        SnowRoad z = new SnowRoad();
        z.wind(9);
        due("wind 9", z.digest() - x.digest() - (z.winters(7, 15, 0) - x.winters(7, 15, 0)) * 31,
            BigInteger.valueOf(31).pow(behind - 1).multiply(BigInteger.valueOf(7)).longValue());
    }

    private static void digestOfAFullObject() {
        sentence(42, "of PLOUGHS plough() 0 to 2, of HOURS 0, 5, 14 at(the HOUR, it, 0 to 2), then cleared() 0, 1, begin() 0, 1, strengths(), ask(); "
            + "of BUSES bus(), rides(9, it), over() 0, 1, start() 0, 1, chance(5, it), above, below; deepest() 0 to 2, shut(), best(), hedge() 0, 1, "
            + "spare(NONE), spare(0), never(), winters(7, 15, 0 and 1)");
        for (int of = 0; of <= 4; of++) {
            SnowRoad x = road("oohcoochooco", "123310004", "a3e;l2w;f9e;c1w".substring(0, Math.max(0, 4 * of - 1)), "aabfxuvc".substring(0, 2 * of));
            x.event(0, 2, 0);
            x.event(1, 3, 2);
            x.event(2, 4, 3);
            x.seen(2, 0, 0);
            due("digest() of " + of + " ploughs", x.digest(), digestByCalls(x));
        }
        // One event had better not be, a bus is on its way behind hour 9, and the other is over by 11 sixteenths.
        SnowRoad spared = road(HEDGES, later(13, "5"), "j9e", "ni");
        spared.event(1, 2, 0);
        due("spare(0)", spared.spare(0), 0);
        due("chance(5, 0, 0)", spared.chance(5, 0, 0), 11);
        due("rides(9, 1)", spared.rides(9, 1), 6);
        due("digest()", spared.digest(), digestByCalls(spared));
    }

    private static long digestByCalls(SnowRoad x) {
        List<Long> row = new ArrayList<>();
        for (int i = 0; i < 8; i++) {
            add(row, x.count(i));
        }
        for (int i = 0; i < 4; i++) {
            add(row, x.fault(i));
        }
        for (int i = 0; i < 24; i++) {
            add(row, x.fall(i), x.snow(i, 0), x.snow(i, 1));
        }
        for (int i = 0; i < 12; i++) {
            add(row, x.land(i), x.deep(6, i), x.deep(20, i), x.lie(i));
        }
        for (int p = 0; p < x.count(0); p++) {
            add(row, x.plough(p, 0), x.plough(p, 1), x.plough(p, 2));
            for (int hour : new int[] {0, 5, 14}) {
                add(row, x.at(hour, p, 0), x.at(hour, p, 1), x.at(hour, p, 2));
            }
            add(row, x.cleared(p, 0), x.cleared(p, 1), x.begin(p, 0), x.begin(p, 1), x.strengths(p), x.ask(p));
        }
        for (int b = 0; b < x.count(1); b++) {
            add(row, x.bus(b), x.rides(9, b), x.over(b, 0), x.over(b, 1), x.start(b, 0), x.start(b, 1), x.chance(5, b, 0), x.chance(5, b, 1));
        }
        add(row, x.deepest(0), x.deepest(1), x.deepest(2), x.shut(), x.best(), x.hedge(0), x.hedge(1));
        add(row, x.spare(NONE), x.spare(0), x.never(), x.winters(7, 15, 0), x.winters(7, 15, 1));
        return digestOf(row);
    }
}
