import java.math.BigInteger;
import java.util.ArrayList;
import java.util.Arrays;
import java.util.List;
import java.util.Random;
import java.util.regex.Matcher;
import java.util.regex.Pattern;

/** Random runs of calls, answered by the class and by a slow reading of the document of its own. */
public final class OracleTest {
    private static final int RUNS = 250;
    private static final int CALLS = 250;

    public static void main(String[] args) {
        int wrong = 0;
        for (int run = 0; run < RUNS && wrong < 10; run++) {
            wrong += oneRun(run);
        }
        System.out.println(wrong == 0 ? "the class and the oracle agree" : wrong + " runs are not as due");
        if (wrong != 0) {
            System.exit(1);
        }
    }

    private static int oneRun(int run) {
        Random random = new Random(run);
        SnowRoad road = new SnowRoad();
        Oracle oracle = new Oracle();
        StringBuilder told = new StringBuilder();
        tellMuch(random, road, oracle, told);
        for (int i = 0; i < CALLS; i++) {
            String call = call(random);
            told.append(call).append('\n');
            long got = answer(road, call);
            long due = oracle.answer(call);
            if (got != due) {
                System.out.println("run " + run + ":\n" + told + "answered " + got + ", due is " + due);
                return 1;
            }
        }
        return 0;
    }

    /** So that most runs have a road with something on it. */
    private static void tellMuch(Random random, SnowRoad road, Oracle oracle, StringBuilder told) {
        List<String> calls = new ArrayList<>();
        boolean early = random.nextBoolean();
        for (int text = 0; text < 4; text++) {
            if (early || random.nextInt(8) != 0) {
                String bytes = early ? earlyText(random, text) : goodText(random, text);
                for (char c : bytes.toCharArray()) {
                    calls.add("type " + text + " " + (int) c);
                }
            }
        }
        for (int i = random.nextInt(9); i > 0; i--) {
            int number = random.nextInt(random.nextBoolean() ? 4 : 12);
            calls.add("event " + random.nextInt(3) + " " + random.nextInt(early ? 10 : 24) + " " + number);
        }
        calls.add("wind " + random.nextInt(early ? 4 : 10));
        for (String call : calls) {
            told.append(call).append('\n');
            answer(road, call);
            oracle.answer(call);
        }
    }

    /** Little snow, and early, so that much hangs on each event. */
    private static String earlyText(Random random, int text) {
        int n = random.nextInt(4) + 3;
        StringBuilder s = new StringBuilder();
        for (int i = 0; i < n; i++) {
            s.append("0012345".charAt(random.nextInt(7)));
        }
        String land = (goodText(random, 0) + "oohchohoohco").substring(0, 12);
        String[] texts = {land, s.toString(), random.nextBoolean() ? "i2w;a2e" : "f1w;c4w", "" + (char) ('a' + random.nextInt(9)) + (char) ('a' + n)};
        return texts[text];
    }

    private static String goodText(Random random, int text) {
        StringBuilder s = new StringBuilder();
        if (text == 2) {
            for (int p = random.nextInt(5); p > 0; p--) {
                s.append((char) ('a' + random.nextInt(12))).append((char) ('1' + random.nextInt(9)));
                s.append(random.nextBoolean() ? 'e' : 'w').append(p > 1 ? ";" : "");
            }
            return s.toString();
        }
        String[] signs = {"oohc", random.nextBoolean() ? "0123456789" : "000123", "", "abcdefghijklmnopqrstuvwx"};
        int[] room = {12, 24, 15, 8};
        for (int i = random.nextInt(room[text] + 1); i > 0; i--) {
            s.append(signs[text].charAt(random.nextInt(signs[text].length())));
        }
        return s.toString();
    }

    private static int near(Random random, int end) {
        return random.nextInt(12) == 0 ? random.nextInt(end + 3) - 2 : random.nextInt(end);
    }

    private static int anything(Random random) {
        int[] odd = {0, 1, -1, 127, 128, 255, 256, -129, 32767, 32768, 65536, Integer.MAX_VALUE, Integer.MIN_VALUE};
        return random.nextInt(3) == 0 ? odd[random.nextInt(odd.length)] : random.nextInt();
    }

    private static String call(Random random) {
        String[] names = {"type", "type", "undo", "wipe", "fault", "land", "fall", "plough", "bus", "wind", "event", "back",
            "read", "deep", "deep", "at", "at", "rides", "snow", "over", "cleared", "deepest", "shut", "best", "begin", "hedge",
            "start", "spare", "seen", "sight", "sight", "forget", "never", "strengths", "lie", "ask", "chance", "winters", "sheet", "lose",
            "lay", "laySmall", "laySmall", "get", "copy", "write", "count", "digest"};
        String name = names[random.nextInt(names.length)];
        switch (name) {
            case "type": {
                String signs = "ohc0123456789abcdefghijklmnopqrstuvwxew;;;ewyz:/";
                int b = random.nextInt(9) == 0 ? near(random, 256) : signs.charAt(random.nextInt(signs.length()));
                return "type " + near(random, 4) + " " + b;
            }
            case "wipe": return random.nextInt(6) != 0 ? "count 2" : "wipe " + near(random, 4);
            case "undo": case "fault": case "read": case "lose": return name + " " + near(random, 4);
            case "land": case "lie": return name + " " + near(random, 12);
            case "fall": return name + " " + near(random, 24);
            case "plough": case "bus": case "begin": case "start": case "over": case "cleared":
                return name + " " + near(random, 4) + (name.equals("bus") ? "" : " " + near(random, 3));
            case "wind": return "wind " + near(random, 10);
            case "event": return "event " + near(random, 3) + " " + near(random, 24) + " " + near(random, 12);
            case "deep": return "deep " + near(random, 24) + " " + near(random, 12);
            case "at": return "at " + near(random, 24) + " " + near(random, 4) + " " + near(random, 3);
            case "rides": return "rides " + near(random, 24) + " " + near(random, 8);
            case "snow": return "snow " + near(random, 24) + " " + near(random, 2);
            case "deepest": return "deepest " + near(random, 3);
            case "hedge": return "hedge " + near(random, 2);
            case "spare": return "spare " + (random.nextInt(5) - 2);
            case "seen": return "seen " + near(random, 24) + " " + near(random, 12) + " " + (random.nextBoolean() ? near(random, 100) : 0);
            // A depth as it is now, which later calls may make one that was, with all else forgotten now and then.
            case "sight": return "sight " + random.nextInt(24) + " " + random.nextInt(12) + " " + random.nextInt(9);
            case "strengths": case "ask": return name + " " + near(random, 4);
            case "chance": return "chance " + near(random, 17) + " " + near(random, 8) + " " + near(random, 2);
            case "winters": return "winters " + anything(random) + " " + near(random, 25) + " " + near(random, 2);
            case "sheet": return "sheet " + near(random, 4) + " " + near(random, 3) + " " + (random.nextInt(7) == 0 ? anything(random) : near(random, 61));
            case "lay": return "lay " + near(random, 4) + " " + near(random, 3) + " " + near(random, 30) + " " + anything(random);
            case "laySmall": return "lay " + near(random, 4) + " " + near(random, 3) + " " + random.nextInt(9) + " " + random.nextInt(4);
            case "get": return "get " + near(random, 4) + " " + near(random, 3) + " " + near(random, 30);
            case "copy": return "copy " + near(random, 4) + " " + near(random, 20) + " " + near(random, 4) + " " + near(random, 20) + " "
                + (random.nextInt(7) == 0 ? anything(random) : near(random, 15));
            case "write": return "write " + near(random, 12) + " " + near(random, 4);
            case "count": return "count " + near(random, 9);
            case "digest": return random.nextInt(4) == 0 ? "digest" : "shut";
            default: return name;
        }
    }

    private static int[] numbers(String call) {
        String[] parts = call.split(" ");
        int[] n = new int[parts.length - 1];
        for (int i = 0; i < n.length; i++) {
            n[i] = Integer.parseInt(parts[i + 1]);
        }
        return n;
    }

    private static long answer(SnowRoad x, String call) {
        int[] n = numbers(call);
        switch (call.split(" ")[0]) {
            case "type": return x.type(n[0], n[1]);
            case "wipe": return x.wipe(n[0]);
            case "undo": return x.undo(n[0]);
            case "fault": return x.fault(n[0]);
            case "land": return x.land(n[0]);
            case "fall": return x.fall(n[0]);
            case "plough": return x.plough(n[0], n[1]);
            case "bus": return x.bus(n[0]);
            case "wind": return x.wind(n[0]);
            case "event": return x.event(n[0], n[1], n[2]);
            case "back": return x.back();
            case "read": return x.read(n[0]);
            case "deep": return x.deep(n[0], n[1]);
            case "at": return x.at(n[0], n[1], n[2]);
            case "rides": return x.rides(n[0], n[1]);
            case "snow": return x.snow(n[0], n[1]);
            case "over": return x.over(n[0], n[1]);
            case "cleared": return x.cleared(n[0], n[1]);
            case "deepest": return x.deepest(n[0]);
            case "shut": return x.shut();
            case "best": return x.best();
            case "begin": return x.begin(n[0], n[1]);
            case "hedge": return x.hedge(n[0]);
            case "start": return x.start(n[0], n[1]);
            case "spare": return x.spare(n[0]);
            case "seen": return x.seen(n[0], n[1], n[2]);
            case "sight": return sight(x, n[0], n[1], n[2]);
            case "forget": return x.forget();
            case "never": return x.never();
            case "strengths": return x.strengths(n[0]);
            case "lie": return x.lie(n[0]);
            case "ask": return x.ask(n[0]);
            case "chance": return x.chance(n[0], n[1], n[2]);
            case "winters": return x.winters(n[0], n[1], n[2]);
            case "sheet": return x.sheet(n[0], n[1], n[2]);
            case "lose": return x.lose(n[0]);
            case "lay": return x.lay(n[0], n[1], n[2], n[3]);
            case "get": return x.get(n[0], n[1], n[2]);
            case "copy": return x.copy(n[0], n[1], n[2], n[3], n[4]);
            case "write": return x.write(n[0], n[1]);
            case "count": return x.count(n[0]);
            case "digest": return x.digest();
            default: throw new IllegalStateException(call);
        }
    }

    private static long sight(SnowRoad x, int hour, int mile, int mood) {
        if (mood == 8) {
            x.forget();
        }
        return x.seen(hour, mile, Math.min(99, x.deep(hour, mile)));
    }

    /** The document, read word by word, with no regard for speed. */
    private static final class Oracle {
        final StringBuilder[] texts = {new StringBuilder(), new StringBuilder(), new StringBuilder(), new StringBuilder()};
        int wind = 2;
        final List<int[]> events = new ArrayList<>();
        final List<int[]> seen = new ArrayList<>();
        final int[] forms = {-1, -1, -1, -1};
        final int[][] rows = new int[4][];
        int finding = 0;

        static final String[] WHOLE = {"[ohc]{0,12}", "[0-9]{0,24}", "|[a-l][1-9][ew](;[a-l][1-9][ew]){0,3}", "[a-x]{0,8}"};
        static final int[] ROOM = {12, 24, 15, 8};

        int faultOf(int text) {
            String s = texts[text].toString();
            for (int k = 1; k <= s.length(); k++) {
                Matcher m = Pattern.compile(WHOLE[text]).matcher(s.substring(0, k));
                if (!m.matches() && !m.hitEnd()) {
                    return k - 1;
                }
            }
            return s.matches(WHOLE[text]) ? -1 : s.length();
        }

        String meant(int text) {
            return faultOf(text) == -1 ? texts[text].toString() : "";
        }

        Story story() {
            Story s = new Story();
            String land = meant(0);
            for (int i = 0; i < land.length(); i++) {
                s.land[i] = land.charAt(i);
            }
            String fall = meant(1);
            for (int i = 0; i < fall.length(); i++) {
                s.fall[i] = fall.charAt(i) - '0';
            }
            String ploughs = meant(2);
            if (!ploughs.isEmpty()) {
                for (String one : ploughs.split(";")) {
                    s.ploughs.add(new int[] {one.charAt(0) - 'a', one.charAt(1) - '0', one.charAt(2) == 'e' ? 1 : -1});
                }
            }
            for (char c : meant(3).toCharArray()) {
                s.buses.add(c - 'a');
            }
            s.wind = wind;
            s.events.addAll(events);
            return s;
        }

        static boolean in(int v, int least, int most) {
            return v >= least && v <= most;
        }

        long find(int number) {
            finding = number;
            return -10 - number;
        }

        long answer(String call) {
            int[] n = numbers(call);
            String name = call.split(" ")[0];
            switch (name) {
                case "type": case "wipe": case "undo": case "fault": return onText(name, n);
                case "sheet": case "lose": case "lay": case "get": case "copy": case "write": case "read": return onSheet(name, n);
                case "wind": {
                    if (!in(n[0], 0, 9)) return -2;
                    int was = wind;
                    wind = n[0];
                    return was;
                }
                case "event":
                    if (!in(n[0], 0, 2) || !in(n[1], 0, 23) || !in(n[2], 0, 11)) return -2;
                    if (events.size() == 8) return -4;
                    events.add(n);
                    return events.size();
                case "back":
                    if (events.isEmpty()) return -3;
                    events.remove(events.size() - 1);
                    return events.size();
                case "seen":
                    if (!in(n[0], 0, 23) || !in(n[1], 0, 11) || !in(n[2], 0, 99)) return -2;
                    if (seen.size() == 8) return -4;
                    seen.add(n);
                    return seen.size();
                case "sight":
                    if (n[2] == 8) seen.clear();
                    return answer("seen " + n[0] + " " + n[1] + " " + Math.min(99, story().tell().deep[n[0]][n[1]]));
                case "forget": {
                    int had = seen.size();
                    seen.clear();
                    return had;
                }
                case "digest": return digest();
                default: return look(name, n);
            }
        }

        long onText(String name, int[] n) {
            if (!in(n[0], 0, 3)) return -2;
            StringBuilder t = texts[n[0]];
            int had = t.length();
            switch (name) {
                case "type":
                    if (!in(n[1], 0, 255)) return -2;
                    if (had == ROOM[n[0]]) return -4;
                    t.append((char) n[1]);
                    return t.length();
                case "wipe":
                    t.setLength(0);
                    return had;
                case "undo":
                    if (had == 0) return -3;
                    t.setLength(had - 1);
                    return had - 1;
                default:
                    return faultOf(n[0]);
            }
        }

        int cut(int form, int v) {
            return new int[] {(byte) v, (short) v, v}[form];
        }

        long onSheet(String name, int[] n) {
            switch (name) {
                case "sheet":
                    if (!in(n[0], 0, 3) || !in(n[1], 0, 2) || n[2] > 60) return -2;
                    if (n[2] < 0) return find(5);
                    forms[n[0]] = n[1];
                    rows[n[0]] = new int[n[2]];
                    return n[2];
                case "lose": {
                    if (!in(n[0], 0, 3)) return -2;
                    if (rows[n[0]] == null) return find(1);
                    int had = rows[n[0]].length;
                    rows[n[0]] = null;
                    return had;
                }
                case "lay":
                    if (!in(n[0], 0, 3) || !in(n[1], 0, 2)) return -2;
                    if (rows[n[0]] == null) return find(1);
                    if (forms[n[0]] != n[1]) return find(3);
                    if (!in(n[2], 0, rows[n[0]].length - 1)) return find(2);
                    rows[n[0]][n[2]] = cut(n[1], n[3]);
                    return 1;
                case "get":
                    if (in(n[0], 0, 3) && in(n[1], 0, 2)) {
                        if (rows[n[0]] == null) finding = 1;
                        else if (forms[n[0]] != n[1]) finding = 3;
                        else if (!in(n[2], 0, rows[n[0]].length - 1)) finding = 2;
                        else return rows[n[0]][n[2]];
                    }
                    return Integer.MIN_VALUE;
                case "copy": {
                    if (!in(n[0], 0, 3) || !in(n[2], 0, 3)) return -2;
                    int[] s = rows[n[0]];
                    int[] t = rows[n[2]];
                    if (s == null || t == null) return find(1);
                    if (forms[n[0]] != forms[n[2]]) return find(4);
                    if (n[1] < 0 || n[3] < 0 || n[4] < 0) return find(2);
                    if ((long) n[1] + n[4] > s.length || (long) n[3] + n[4] > t.length) return find(2);
                    int[] were = s.clone();
                    for (int k = 0; k < n[4]; k++) {
                        t[n[3] + k] = were[n[1] + k];
                    }
                    return 1;
                }
                case "write": {
                    if (!in(n[0], 0, 11) || !in(n[1], 0, 3)) return -2;
                    if (rows[n[1]] == null) return find(1);
                    Story s = story().tell();
                    int k = 0;
                    while (k < 24 && k < rows[n[1]].length) {
                        rows[n[1]][k] = cut(forms[n[1]], s.deep[k][n[0]]);
                        k++;
                    }
                    return k;
                }
                default: {
                    if (!in(n[0], 0, 3)) return -2;
                    if (rows[n[0]] == null) return find(1);
                    int k = 0;
                    int[] r = rows[n[0]];
                    while (3 * k + 3 <= r.length && answer("event " + r[3 * k] + " " + r[3 * k + 1] + " " + r[3 * k + 2]) > 0) {
                        k++;
                    }
                    return k;
                }
            }
        }

        long look(String name, int[] n) {
            Story s = story();
            int ploughs = s.ploughs.size();
            int buses = s.buses.size();
            switch (name) {
                case "land": return !in(n[0], 0, 11) ? -2 : "ohc".indexOf(s.land[n[0]]);
                case "fall": return !in(n[0], 0, 23) ? -2 : s.fall[n[0]];
                case "plough":
                    if (!in(n[0], 0, ploughs - 1) || !in(n[1], 0, 2)) return -2;
                    return n[1] < 2 ? s.ploughs.get(n[0])[n[1]] : s.ploughs.get(n[0])[2] == 1 ? 0 : 1;
                case "bus": return !in(n[0], 0, buses - 1) ? -2 : s.buses.get(n[0]);
                case "deep": return !in(n[0], 0, 23) || !in(n[1], 0, 11) ? -2 : s.tell().deep[n[0]][n[1]];
                case "at":
                    if (!in(n[0], 0, 23) || !in(n[1], 0, ploughs - 1) || !in(n[2], 0, 2)) return -2;
                    return s.tell().at[n[0]][n[1]][n[2]];
                case "rides": return !in(n[0], 0, 23) || !in(n[1], 0, buses - 1) ? -2 : s.tell().rides[n[0]][n[1]];
                case "snow":
                    if (!in(n[0], 0, 23) || !in(n[1], 0, 1)) return -2;
                    s.tell();
                    return n[1] == 0 ? Arrays.stream(s.deep[n[0]]).sum() : Arrays.stream(s.deep[n[0]]).filter(d -> d > 4).count();
                case "over":
                    if (!in(n[0], 0, buses - 1) || !in(n[1], 0, 1)) return -2;
                    s.tell();
                    return n[1] == 0 ? s.over[n[0]] : s.waited[n[0]];
                case "cleared":
                    if (!in(n[0], 0, ploughs - 1) || !in(n[1], 0, 1)) return -2;
                    s.tell();
                    return n[1] == 0 ? s.clearedBy(n[0]) : s.stuck[n[0]];
                case "deepest": return !in(n[0], 0, 2) ? -2 : s.tell().deepest()[n[0]];
                case "shut": {
                    s.tell();
                    return Arrays.stream(s.deep).filter(row -> Arrays.stream(row).anyMatch(d -> d > 4)).count();
                }
                case "best": {
                    s.tell();
                    int best = -1;
                    for (int p = ploughs - 1; p >= 0; p--) {
                        if (s.clearedBy(p) > 0 && (best == -1 || s.clearedBy(p) >= s.clearedBy(best))) best = p;
                    }
                    return best;
                }
                case "count": return count(n[0], s);
                default: return plan(name, n, ploughs, buses);
            }
        }

        long count(int what, Story s) {
            s.tell();
            switch (what) {
                case 0: return s.ploughs.size();
                case 1: return s.buses.size();
                case 2: return Arrays.stream(texts).mapToInt(StringBuilder::length).sum();
                case 3: return wind;
                case 4: return events.size();
                case 5: return Arrays.stream(s.deep[23]).sum();
                case 6: return s.howManyOver();
                case 7: return seen.size();
                case 8: return finding;
                default: return -2;
            }
        }

        boolean fits(Story s) {
            s.tell();
            return seen.stream().allMatch(one -> s.deep[one[0]][one[1]] == one[2]);
        }

        long plan(String name, int[] n, int ploughs, int buses) {
            switch (name) {
                case "begin": {
                    if (!in(n[0], 0, ploughs - 1) || !in(n[1], 0, 1)) return -2;
                    long[] best = {-1, -1};
                    for (int m = 11; m >= 0; m--) {
                        Story s = story();
                        s.ploughs.get(n[0])[0] = m;
                        int over = s.tell().howManyOver();
                        if (over >= best[1]) best = new long[] {m, over};
                    }
                    return best[n[1]];
                }
                case "hedge": {
                    if (!in(n[0], 0, 1)) return -2;
                    long[] best = {-1, Long.MAX_VALUE};
                    for (int m = 11; m >= 0; m--) {
                        Story s = story();
                        s.land[m] = 'h';
                        int left = Arrays.stream(s.tell().deep[23]).sum();
                        if (left <= best[1]) best = new long[] {m, left};
                    }
                    return best[n[0]];
                }
                case "start": {
                    if (!in(n[0], 0, buses - 1) || !in(n[1], 0, 1)) return -2;
                    long[] best = {-1, -1};
                    for (int h = 23; h >= 0; h--) {
                        Story s = story();
                        s.buses.set(n[0], h);
                        int over = s.tell().over[n[0]];
                        if (over != -1 && (best[1] == -1 || over <= best[1])) best = new long[] {h, over};
                    }
                    return best[n[1]];
                }
                case "spare": {
                    if (!in(n[0], -1, 1)) return -2;
                    int[] row = spared();
                    if (row == null) return -1;
                    return n[0] == -1 ? row.length : n[0] < row.length ? row[n[0]] : -1;
                }
                default: return guess(name, n, ploughs, buses);
            }
        }

        boolean allOverWithout(int a, int b) {
            Story s = story();
            s.events.clear();
            for (int e = 0; e < events.size(); e++) {
                if (e != a && e != b) s.events.add(events.get(e));
            }
            return s.tell().howManyOver() == s.buses.size();
        }

        int[] spared() {
            if (allOverWithout(-1, -1)) return new int[0];
            for (int a = 0; a < events.size(); a++) {
                if (allOverWithout(a, a)) return new int[] {a};
            }
            for (int a = 0; a < events.size(); a++) {
                for (int b = a + 1; b < events.size(); b++) {
                    if (allOverWithout(a, b)) return new int[] {a, b};
                }
            }
            return null;
        }

        Story withStrength(int p, int strength) {
            Story s = story();
            s.ploughs.get(p)[1] = strength;
            return s.tell();
        }

        long guess(String name, int[] n, int ploughs, int buses) {
            int bits = 0;
            switch (name) {
                case "never":
                    for (int e = 0; e < events.size(); e++) {
                        Story s = story();
                        s.events.remove(e);
                        if (fits(s)) bits += 1 << e;
                    }
                    return bits;
                case "strengths":
                    if (!in(n[0], 0, ploughs - 1)) return -2;
                    for (int v = 1; v <= 9; v++) {
                        if (fits(withStrength(n[0], v))) bits += 1 << v;
                    }
                    return bits;
                case "lie":
                    if (!in(n[0], 0, 11)) return -2;
                    for (int kind = 0; kind < 3; kind++) {
                        Story s = story();
                        s.land[n[0]] = "ohc".charAt(kind);
                        if (fits(s)) bits += 1 << kind;
                    }
                    return bits;
                case "ask": {
                    if (!in(n[0], 0, ploughs - 1)) return -2;
                    int[] most = new int[24];
                    for (int h = 0; h < 24; h++) {
                        java.util.Map<String, Integer> groups = new java.util.HashMap<>();
                        for (int v = 1; v <= 9; v++) {
                            Story s = withStrength(n[0], v);
                            if (fits(s)) most[h] = Math.max(most[h], groups.merge(Arrays.toString(s.deep[h]), 1, Integer::sum));
                        }
                    }
                    int which = 0;
                    for (int h = 0; h < 24; h++) {
                        if (most[h] < most[which]) which = h;
                    }
                    return which;
                }
                case "chance":
                    if (!in(n[0], 0, 16) || !in(n[1], 0, buses - 1) || !in(n[2], 0, 1)) return Long.MIN_VALUE + 2;
                    return chance(n[0], n[1])[n[2]];
                case "winters": {
                    if (!in(n[1], 0, 24) || !in(n[2], 0, 1)) return -2;
                    Story s = story();
                    Arrays.fill(s.fall, 0);
                    long seed = n[0];
                    for (int h = 0; h < n[1]; h++) {
                        seed = (seed * 1103515245L + 12345L) & 0xffffffffL;
                        s.fall[h] = (int) (seed / 65536 % 5);
                    }
                    s.tell();
                    return n[2] == 0 ? Arrays.stream(s.deep[23]).sum() : s.howManyOver();
                }
                default: throw new IllegalStateException(name);
            }
        }

        long[] chance(int c, int bus) {
            BigInteger above = BigInteger.ZERO;
            BigInteger below = BigInteger.valueOf(16).pow(events.size());
            for (int set = 0; set < 1 << events.size(); set++) {
                BigInteger weight = BigInteger.ONE;
                Story s = story();
                s.events.clear();
                for (int e = 0; e < events.size(); e++) {
                    boolean is = (set & 1 << e) != 0;
                    weight = weight.multiply(BigInteger.valueOf(is ? c : 16 - c));
                    if (is) s.events.add(events.get(e));
                }
                if (s.tell().over[bus] != -1) above = above.add(weight);
            }
            BigInteger common = above.gcd(below);
            return new long[] {above.divide(common).longValueExact(), below.divide(common).longValueExact()};
        }

        long digest() {
            List<String> calls = new ArrayList<>();
            for (int i = 0; i < 8; i++) calls.add("count " + i);
            for (int i = 0; i < 4; i++) calls.add("fault " + i);
            for (int i = 0; i < 24; i++) calls.addAll(List.of("fall " + i, "snow " + i + " 0", "snow " + i + " 1"));
            for (int i = 0; i < 12; i++) calls.addAll(List.of("land " + i, "deep 6 " + i, "deep 20 " + i, "lie " + i));
            Story s = story();
            for (int p = 0; p < s.ploughs.size(); p++) {
                for (int w = 0; w < 3; w++) calls.add("plough " + p + " " + w);
                for (int h : new int[] {0, 5, 14}) {
                    for (int w = 0; w < 3; w++) calls.add("at " + h + " " + p + " " + w);
                }
                calls.addAll(List.of("cleared " + p + " 0", "cleared " + p + " 1", "begin " + p + " 0", "begin " + p + " 1"));
                calls.addAll(List.of("strengths " + p, "ask " + p));
            }
            for (int b = 0; b < s.buses.size(); b++) {
                calls.addAll(List.of("bus " + b, "rides 9 " + b, "over " + b + " 0", "over " + b + " 1"));
                calls.addAll(List.of("start " + b + " 0", "start " + b + " 1", "chance 5 " + b + " 0", "chance 5 " + b + " 1"));
            }
            calls.addAll(List.of("deepest 0", "deepest 1", "deepest 2", "shut", "best", "hedge 0", "hedge 1"));
            calls.addAll(List.of("spare -1", "spare 0", "never", "winters 7 15 0", "winters 7 15 1"));
            long h = 17;
            for (String call : calls) h = 31 * h + answer(call);
            return h;
        }
    }

    private static final class Story {
        final char[] land = "oooooooooooo".toCharArray();
        final int[] fall = new int[24];
        final List<int[]> ploughs = new ArrayList<>();
        final List<Integer> buses = new ArrayList<>();
        final List<int[]> events = new ArrayList<>();
        int wind;

        final int[][] deep = new int[24][];
        final int[][][] at = new int[24][4][3];
        final int[][] rides = new int[24][8];
        final int[] over = new int[8];
        final int[] waited = new int[8];
        final int[] stuck = new int[4];

        boolean is(int kind, int hour, int number) {
            return events.stream().anyMatch(e -> e[0] == kind && e[1] == hour && e[2] == number);
        }

        Story tell() {
            Arrays.fill(over, -1);
            int[] snow = new int[12];
            int[] mile = new int[4];
            int[] way = new int[4];
            int[] bus = new int[8];
            for (int p = 0; p < ploughs.size(); p++) {
                mile[p] = ploughs.get(p)[0];
                way[p] = ploughs.get(p)[2];
            }
            for (int hour = 0; hour < 24; hour++) {
                snow = weather(snow, hour);
                for (int p = 0; p < ploughs.size(); p++) {
                    plough(snow, mile, way, hour, p);
                }
                for (int b = 0; b < buses.size(); b++) {
                    drive(snow, bus, hour, b);
                }
                deep[hour] = snow.clone();
            }
            return this;
        }

        int[] weather(int[] before, int hour) {
            int[] fallen = before.clone();
            for (int m = 0; m < 12; m++) {
                fallen[m] += fall[hour];
                if (land[m] == 'c' && fall[hour] > 0) fallen[m]++;
            }
            int strength = wind;
            for (int[] e : events) {
                if (e[0] == 0 && e[1] == hour) strength += 3;
            }
            int[] after = fallen.clone();
            for (int m = 0; m < 12; m++) {
                if (land[m] == 'o') {
                    after[m] -= Math.min(strength, fallen[m]);
                    if (m < 11) after[m + 1] += Math.min(strength, fallen[m]);
                }
            }
            for (int[] e : events) {
                if (e[0] == 2 && e[1] == hour) after[e[2]] = after[e[2]] / 2;
            }
            return after;
        }

        void plough(int[] snow, int[] mile, int[] way, int hour, int p) {
            int did = 0;
            if (!is(1, hour, p) && !is(1, hour - 1, p)) {
                if (mile[p] == 0 && way[p] == -1 || mile[p] == 11 && way[p] == 1) way[p] = -way[p];
                int next = mile[p] + way[p];
                int strong = ploughs.get(p)[1];
                if (snow[next] <= 3 * strong) {
                    did = snow[next];
                    mile[p] = next;
                } else {
                    did = strong;
                    stuck[p]++;
                }
                snow[next] -= did;
            }
            at[hour][p] = new int[] {mile[p], way[p] == 1 ? 0 : 1, did};
        }

        void drive(int[] snow, int[] bus, int hour, int b) {
            if (hour < buses.get(b)) {
                rides[hour][b] = -1;
                return;
            }
            if (over[b] == -1) {
                int gone = 0;
                while (gone < 3 && bus[b] < 11 && snow[bus[b] + 1] <= 4) {
                    bus[b]++;
                    gone++;
                }
                if (gone == 0) waited[b]++;
                if (bus[b] == 11) over[b] = hour;
            }
            rides[hour][b] = bus[b];
        }

        int clearedBy(int p) {
            return Arrays.stream(at).mapToInt(row -> row[p][2]).sum();
        }

        int howManyOver() {
            int n = 0;
            for (int b = 0; b < buses.size(); b++) {
                if (over[b] != -1) n++;
            }
            return n;
        }

        int[] deepest() {
            int[] best = {deep[0][0], 0, 0};
            for (int h = 0; h < 24; h++) {
                for (int m = 0; m < 12; m++) {
                    if (deep[h][m] > best[0]) best = new int[] {deep[h][m], h, m};
                }
            }
            return best;
        }
    }
}
