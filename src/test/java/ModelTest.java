import java.lang.reflect.Method;
import java.nio.charset.StandardCharsets;
import java.util.ArrayList;
import java.util.Arrays;
import java.util.Collections;
import java.util.List;
import java.util.Random;
import java.util.regex.Matcher;
import java.util.regex.Pattern;

/**
 * Long runs of calls, drawn from fixed seeds, on the class and on a plain model of the document that is written in
 * another way: maps are sought by relaxing a list of limits, spans by halving, sets and guesses by trying each.
 */
public final class ModelTest {
    private static final int RUNS = 1200;
    private static final int CALLS = 400;

    private static final String[] METHODS = {"letter", "of", "change", "law", "go", "now", "fits", "span", "sure",
        "below", "widest", "unknown", "can", "when", "ahead", "known", "agree", "strike", "strikes", "implied",
        "suspects", "dearest", "merge", "kinds", "days", "fewest", "tight", "loses", "odds", "seed", "feed", "wipe",
        "text", "hold", "as", "sheet", "write", "copy", "load", "judge", "maps", "image", "undo", "tear", "count",
        "status"};

    public static void main(String[] args) throws Exception {
        int wrong = 0;
        for (int run = 0; run < RUNS && wrong < 20; run++) {
            wrong += run(run) ? 0 : 1;
        }
        System.out.println(wrong == 0 ? "all answers are as due" : wrong + " runs are not as due");
        if (wrong != 0) {
            System.exit(1);
        }
    }

    private static boolean run(int run) throws Exception {
        Runner r = new Runner(run);
        while (r.calls < CALLS && r.agrees) {
            r.next();
        }
        return r.agrees;
    }

    /** Draws calls and makes each on both. */
    private static final class Runner {
        final int run;
        final Random random;
        final FarPost x = new FarPost();
        final Model model = new Model();
        final List<String> history = new ArrayList<>();
        final int scale;
        int calls = 0;
        boolean agrees = true;

        Runner(int run) {
            this.run = run;
            this.random = new Random(run * 7919L + 1);
            this.scale = new int[] {3, 12, 99}[run % 3];
        }

        int below(int n) {
            return random.nextInt(n);
        }

        /** Mostly from low to high, now and then just beyond, or far away. */
        int about(int low, int high) {
            int luck = below(60);
            if (luck == 0) {
                return low - 1;
            }
            if (luck == 1) {
                return high + 1;
            }
            if (luck == 2) {
                return random.nextInt();
            }
            if (luck == 3) {
                return random.nextBoolean() ? low : high;
            }
            return low + below(high - low + 1);
        }

        int aLetter() {
            return below(25) == 0 ? about(-1, 8) : below(Math.max(1, model.letters.size()));
        }

        int aSet() {
            return about(0, (1 << model.letters.size()) - 1);
        }

        int someDays() {
            return below(20) == 0 ? about(-99, 99) : below(2 * scale + 1) - scale;
        }

        void next() throws Exception {
            if (calls < 12 && below(3) > 0 && model.letters.size() < 8) {
                aNewLetter();
                return;
            }
            if (below(12) == 0) {
                aText();
                return;
            }
            if (below(12) == 0) {
                aMapOnASheet();
                return;
            }
            call(METHODS[below(METHODS.length)]);
        }

        void aNewLetter() throws Exception {
            int mark = below(3) == 0 ? about(0, 999) : below(10);
            make("letter", about(0, 6), about(0, 7), below(run % 2 == 0 ? 4 : 8), someDays(), mark);
        }

        void call(String name) throws Exception {
            switch (name) {
                case "letter": aNewLetter(); return;
                case "of": make(name, aLetter(), about(0, 9)); return;
                case "change": aChange(); return;
                case "law": make(name, about(0, 1), below(2) == 0 ? about(0, 9) : below(2)); return;
                case "go": make(name, below(2) == 0 ? about(1, 200) : 1 + below(8)); return;
                case "now": make(name, about(0, 5)); return;
                case "span": make(name, about(0, 7), about(0, 7), about(0, 2)); return;
                case "sure": case "below": make(name, about(0, 7)); return;
                case "can": aCan(); return;
                case "ahead": make(name, below(2) == 0 ? about(0, 500) : below(30)); return;
                case "known": make(name, about(0, 7), about(0, 7)); return;
                case "agree": make(name, aSet()); return;
                case "merge": make(name, aSet(), aSet()); return;
                case "kinds": case "days": case "fewest": make(name, aLetter()); return;
                case "loses": make(name, below(4) == 0 ? about(1, 20) : 1); return;
                case "odds": make(name, about(0, 14), about(0, 1)); return;
                case "seed": make(name, random.nextInt()); return;
                case "feed": make(name, random.nextInt(), about(1, 4)); return;
                case "hold": make(name, about(0, 9), below(3) == 0 ? -1 : aLetter()); return;
                case "as": make(name, about(0, 9), about(0, 6)); return;
                case "sheet": make(name, about(0, 3), aBits(), below(2) == 0 ? about(0, 40) : below(9)); return;
                case "write": make(name, about(0, 3), about(0, 8), aNumber()); return;
                case "copy": make(name, about(0, 3), about(0, 4), about(0, 3), about(0, 4), about(0, 4)); return;
                case "load": case "judge": case "maps": make(name, about(0, 3)); return;
                case "count": make(name, about(0, 7)); return;
                case "status": make(name, about(-1, 6)); return;
                default: make(name);
            }
        }

        int aBits() {
            return below(30) == 0 ? about(0, 33) : new int[] {0, 8, 8, 16, 16, 32, 32, 32}[below(8)];
        }

        int aNumber() {
            return below(6) == 0 ? random.nextInt() : below(4) == 0 ? about(-1100, 1100) : someDays();
        }

        void aChange() throws Exception {
            int what = about(0, 5);
            int[] highs = {6, 7, 7, 99, 999, 1};
            int v = what < 0 || what > 5 ? below(3) : what == 3 ? someDays()
                : what == 4 && below(3) > 0 ? below(10) : about(0, highs[what]);
            make("change", aLetter(), what, v);
        }

        void aCan() throws Exception {
            int a = below(8);
            int b = below(8);
            int v = about(-999, 999);
            if (a != b && below(4) > 0 && model.fits() == 1) {
                v = model.bound(model.edgesNow(), a, b, below(2) == 1) + below(3) - 1;
            }
            make("can", below(20) == 0 ? about(0, 7) : a, b, v);
        }

        /** A map of the model's, perhaps with a town moved, comes to a sheet. */
        void aMapOnASheet() throws Exception {
            int[] places = Model.solve(model.edgesNow());
            int n = below(9);
            int s = below(4);
            int bits = below(3) == 0 ? 32 : 16;
            make("sheet", s, bits, n);
            int base = bits == 32 && below(3) == 0 ? random.nextInt() : below(2000);
            int moved = below(12);
            for (int i = 0; i < n; i++) {
                int place = places == null ? below(20) : places[i];
                make("write", s, i, base + place + (i == moved ? below(5) - 2 : 0));
            }
            make("judge", s);
            make("maps", s);
        }

        void aText() throws Exception {
            if (below(4) > 0) {
                make("wipe");
            }
            byte[] text = aSpoiltText().getBytes(StandardCharsets.ISO_8859_1);
            int at = 0;
            while (at < text.length && agrees) {
                int n = Math.min(text.length - at, 4);
                int number = random.nextBoolean() || n == 4 ? 0 : random.nextInt() << 8 * n;
                for (int i = 0; i < n; i++) {
                    number |= (text[at + i] & 255) << 8 * (n - 1 - i);
                }
                make("feed", number, n);
                at += n;
            }
            make("text");
        }

        String aSpoiltText() {
            StringBuilder sb = new StringBuilder();
            int items = 1 + below(4);
            for (int i = 0; i < items; i++) {
                sb.append(i == 0 ? "" : blanks(0) + ";" + blanks(0)).append(anItem());
            }
            int spoil = below(3) == 0 ? 1 + below(2) : 0;
            String signs = "abcdefghijklmnopqrstuvwxyz0123456789;- ;-  .A`{/:\t\n";
            for (int i = 0; i < spoil && sb.length() > 0; i++) {
                int at = below(sb.length());
                char sign = below(20) == 0 ? (char) below(256) : signs.charAt(below(signs.length()));
                switch (below(4)) {
                    case 0: sb.setCharAt(at, sign); break;
                    case 1: sb.insert(at, sign); break;
                    case 2: sb.deleteCharAt(at); break;
                    default: sb.setLength(at); break;
                }
            }
            return sb.toString();
        }

        String blanks(int least) {
            return " ".repeat(least + (below(4) == 0 ? below(2) : 0));
        }

        String aTold(int high) {
            int told = below(20) == 0 ? below(high + 3) : below(high + 1);
            return (below(15) == 0 ? "0" : "") + told;
        }

        String anItem() {
            if (below(5) == 0) {
                return (random.nextBoolean() ? "slip" : "frost") + blanks(1) + aTold(9);
            }
            String kind = below(40) == 0 ? "days" : Model.NAMES.get(below(7));
            StringBuilder sb = new StringBuilder(kind).append(blanks(1)).append(aTold(7)).append(blanks(1)).append(aTold(7));
            sb.append(blanks(1)).append("days").append(blanks(1));
            sb.append(random.nextBoolean() ? "-" + blanks(0) : "").append(aTold(Math.min(99, scale)));
            if (below(3) == 0) {
                sb.append(blanks(below(2))).append("mark").append(blanks(below(2))).append(aTold(below(2) == 0 ? 999 : 9));
            }
            return sb.append(below(4) == 0 ? blanks(below(2)) + "struck" : "").append(blanks(0)).toString();
        }

        void make(String name, int... args) throws Exception {
            if (!agrees || calls >= 511) {
                return;
            }
            calls++;
            Class<?>[] types = new Class<?>[args.length];
            Object[] given = new Object[args.length];
            for (int i = 0; i < args.length; i++) {
                types[i] = int.class;
                given[i] = args[i];
            }
            Method mine = FarPost.class.getMethod(name, types);
            Method models = Model.class.getMethod(name, types);
            long want = model.told(name, ((Number) models.invoke(model, given)).longValue());
            long got = ((Number) mine.invoke(x, given)).longValue();
            String call = name + Arrays.toString(args);
            history.add(call + " = " + got);
            if (got != want) {
                agrees = false;
                System.out.println("run " + run + ": " + call + " answered " + got + ", due is " + want + "; calls ahead of it: "
                    + history);
            }
        }
    }

    /** The document, told plainly. */
    public static final class Model {
        static final List<String> NAMES = List.of("letter", "hasty", "sealed", "forged", "copied", "card", "late");
        static final int BEYOND = -1000001;
        static final int FULL = BEYOND - 1;
        static final int KIND = BEYOND - 2;
        static final int NONE = BEYOND - 3;
        static final int STATE = BEYOND - 4;
        static final int MISSING = BEYOND - 5;
        static final int SIZE = BEYOND - 6;

        /** Kind, from, to, days, mark, struck. */
        List<int[]> letters = new ArrayList<>();
        int slip = 0;
        int frost = 0;
        int day = 0;
        int z = 1;
        int[] spots = {-1, -1, -1, -1, -1, -1, -1, -1, -1, -1};
        String tape = "";
        int[] bits = new int[4];
        int[][] sheets = new int[4][0];
        Model kept = null;
        int[] found = new int[7];

        long told(String name, long answer) {
            boolean free = name.equals("seed");
            if (!free && !lastFree && answer <= BEYOND && answer >= SIZE) {
                found[(int) (BEYOND - answer)]++;
            }
            lastFree = false;
            return answer;
        }

        private boolean lastFree = false;

        static boolean in(int v, int low, int high) {
            return low <= v && v <= high;
        }

        boolean pair(int a, int b) {
            return in(a, 0, 7) && in(b, 0, 7) && a != b;
        }

        boolean has(int letter) {
            return in(letter, 0, letters.size() - 1);
        }

        boolean hasAll(int set) {
            return (set & -1 << letters.size()) == 0;
        }

        static int[] range(int[] l, int slip) {
            int d = l[3];
            switch (NAMES.get(l[0])) {
                case "letter": return new int[] {d - slip, d + slip};
                case "hasty": return new int[] {-999, d + slip};
                case "late": return new int[] {-999, d + slip + 5};
                case "card": return new int[] {d - 2 * slip, d + 2 * slip};
                case "sealed": return new int[] {d, d};
                case "forged": return new int[] {-d, -d};
                default: return new int[] {-d - 1, -d + 1};
            }
        }

        int comes(int[] l) {
            int far = l[3] < 0 ? -l[3] : l[3];
            switch (NAMES.get(l[0])) {
                case "hasty": return l[4] + far / 2;
                case "late": return l[4] + far / 2 + 10;
                case "sealed": return l[4] + far + frost + 1;
                case "forged": return l[4];
                case "copied": return l[4] + 2;
                default: return l[4] + far + frost;
            }
        }

        boolean counts(int[] l, int on) {
            return l[5] == 0 && comes(l) <= on;
        }

        int countingOn(int on) {
            int set = 0;
            for (int i = 0; i < letters.size(); i++) {
                set |= counts(letters.get(i), on) ? 1 << i : 0;
            }
            return set;
        }

        /** Each edge: the second town's place less the first one's is at most the third number. */
        List<int[]> edges(int set, int slip) {
            List<int[]> edges = new ArrayList<>();
            for (int a = 0; a < 8; a++) {
                for (int b = 0; b < 8; b++) {
                    if (a != b) {
                        edges.add(new int[] {a, b, 999});
                    }
                }
            }
            for (int i = 0; i < letters.size(); i++) {
                if ((set & 1 << i) != 0) {
                    int[] l = letters.get(i);
                    int[] range = range(l, slip);
                    edges.add(new int[] {l[1], l[2], range[1]});
                    edges.add(new int[] {l[2], l[1], -range[0]});
                }
            }
            return edges;
        }

        List<int[]> edgesNow() {
            return edges(countingOn(day), slip);
        }

        static int[] solve(List<int[]> edges) {
            int[] place = new int[8];
            for (int round = 0; round <= 8; round++) {
                boolean moved = false;
                for (int[] e : edges) {
                    if (place[e[0]] + e[2] < place[e[1]]) {
                        place[e[1]] = place[e[0]] + e[2];
                        moved = true;
                    }
                }
                if (!moved) {
                    return place;
                }
            }
            return null;
        }

        static boolean solves(List<int[]> edges, int a, int b, int v) {
            List<int[]> more = new ArrayList<>(edges);
            more.add(new int[] {a, b, v});
            more.add(new int[] {b, a, -v});
            return solve(more) != null;
        }

        /** The most (or least) that the second town can lie below the first, if a map fits. */
        int bound(List<int[]> edges, int a, int b, boolean most) {
            int[] place = solve(edges);
            int good = place[b] - place[a];
            int bad = most ? 1000 : -1000;
            while (Math.abs(bad - good) > 1) {
                int middle = (good + bad) / 2;
                if (solves(edges, a, b, middle)) {
                    good = middle;
                } else {
                    bad = middle;
                }
            }
            return good;
        }

        int many(List<int[]> edges, int a, int b) {
            return bound(edges, a, b, true) - bound(edges, a, b, false) + 1;
        }

        int allMany(List<int[]> edges) {
            int sum = 0;
            for (int a = 0; a < 8; a++) {
                for (int b = 0; b < a; b++) {
                    sum += many(edges, a, b);
                }
            }
            return sum;
        }

        boolean holds(int set) {
            return solve(edges(set, slip)) != null;
        }

        public int letter(int kind, int from, int to, int days, int mark) {
            if (!in(kind, 0, 6) || !pair(from, to) || !in(days, -99, 99) || !in(mark, 0, 999)) {
                return BEYOND;
            }
            if (letters.size() == 8) {
                return FULL;
            }
            letters.add(new int[] {kind, from, to, days, mark, 0});
            return letters.size() - 1;
        }

        public int of(int letter, int what) {
            if (!has(letter) || !in(what, 0, 9)) {
                return BEYOND;
            }
            int[] l = letters.get(letter);
            return what < 6 ? l[what] : what < 8 ? range(l, slip)[what - 6] : what == 8 ? comes(l) : counts(l, day) ? 1 : 0;
        }

        public int change(int letter, int what, int v) {
            int[] lows = {0, 0, 0, -99, 0, 0};
            int[] highs = {6, 7, 7, 99, 999, 1};
            if (!has(letter) || !in(what, 0, 5) || !in(v, lows[what], highs[what])) {
                return BEYOND;
            }
            int[] l = letters.get(letter).clone();
            int was = l[what];
            l[what] = v;
            if (l[1] == l[2]) {
                return BEYOND;
            }
            letters.set(letter, l);
            return was;
        }

        public int law(int what, int v) {
            if (!in(what, 0, 1) || !in(v, 0, 9)) {
                return BEYOND;
            }
            int was = what == 0 ? slip : frost;
            slip = what == 0 ? v : slip;
            frost = what == 1 ? v : frost;
            return was;
        }

        public int go(int n) {
            if (!in(n, 1, 200)) {
                return BEYOND;
            }
            if (day + n > 99999) {
                return STATE;
            }
            day += n;
            return countingOn(day);
        }

        int struck() {
            int set = 0;
            for (int i = 0; i < letters.size(); i++) {
                set += letters.get(i)[5] << i;
            }
            return set;
        }

        public int now(int what) {
            if (!in(what, 0, 5)) {
                return BEYOND;
            }
            int early = 0;
            for (int i = 0; i < letters.size(); i++) {
                early |= comes(letters.get(i)) > day ? 1 << i : 0;
            }
            return new int[] {day, countingOn(day), early, struck(), slip, frost}[what];
        }

        public int fits() {
            return holds(countingOn(day)) ? 1 : 0;
        }

        public int span(int a, int b, int what) {
            if (!pair(a, b) || !in(what, 0, 2)) {
                return BEYOND;
            }
            if (fits() == 0) {
                return NONE;
            }
            return what == 2 ? many(edgesNow(), a, b) : bound(edgesNow(), a, b, what == 1);
        }

        public int sure(int town) {
            if (!in(town, 0, 7)) {
                return BEYOND;
            }
            if (fits() == 0) {
                return NONE;
            }
            int set = 0;
            for (int t = 0; t < 8; t++) {
                set |= t == town || many(edgesNow(), town, t) == 1 ? 1 << t : 0;
            }
            return set;
        }

        public int below(int town) {
            if (!in(town, 0, 7)) {
                return BEYOND;
            }
            if (fits() == 0) {
                return NONE;
            }
            int set = 0;
            for (int t = 0; t < 8; t++) {
                set |= t != town && bound(edgesNow(), town, t, false) > 0 ? 1 << t : 0;
            }
            return set;
        }

        public int widest() {
            if (fits() == 0) {
                return NONE;
            }
            int best = -1;
            int most = -1;
            for (int a = 7; a >= 0; a--) {
                for (int b = 7; b > a; b--) {
                    int many = many(edgesNow(), a, b);
                    if (many >= most) {
                        most = many;
                        best = 8 * a + b;
                    }
                }
            }
            return best;
        }

        public int unknown() {
            return fits() == 0 ? NONE : allMany(edgesNow());
        }

        public int can(int a, int b, int v) {
            if (!pair(a, b) || !in(v, -999, 999)) {
                return BEYOND;
            }
            return solves(edgesNow(), a, b, v) ? 1 : 0;
        }

        public int when() {
            for (int n = 0; n <= 500; n++) {
                if (!holds(countingOn(day + n))) {
                    return n;
                }
            }
            return NONE;
        }

        public int ahead(int n) {
            return in(n, 0, 500) ? countingOn(day + n) : BEYOND;
        }

        public int known(int a, int b) {
            if (!pair(a, b)) {
                return BEYOND;
            }
            List<Integer> days = new ArrayList<>(List.of(0));
            for (int[] l : letters) {
                days.add(comes(l) - day);
            }
            Collections.sort(days);
            for (int n : days) {
                int set = countingOn(day + n);
                if (in(n, 0, 500) && holds(set) && many(edges(set, slip), a, b) == 1) {
                    return n;
                }
            }
            return NONE;
        }

        public int agree(int set) {
            return !hasAll(set) ? BEYOND : holds(set) ? 1 : 0;
        }

        List<Integer> leaves(int stay, int set) {
            List<Integer> best = new ArrayList<>();
            for (int out = 0; out < 256; out++) {
                if ((out & set) != out || !holds(stay | set ^ out)) {
                    continue;
                }
                if (!best.isEmpty() && Integer.bitCount(best.get(0)) > Integer.bitCount(out)) {
                    best.clear();
                }
                if (best.isEmpty() || Integer.bitCount(best.get(0)) == Integer.bitCount(out)) {
                    best.add(out);
                }
            }
            return best;
        }

        public int strike() {
            return leaves(0, countingOn(day)).get(0);
        }

        public int strikes() {
            return leaves(0, countingOn(day)).size();
        }

        public int implied() {
            if (fits() == 0) {
                return NONE;
            }
            int set = countingOn(day);
            int told = 0;
            for (int i = 0; i < letters.size(); i++) {
                if ((set & 1 << i) != 0) {
                    int[] l = letters.get(i);
                    List<int[]> edges = edges(set ^ 1 << i, slip);
                    boolean low = bound(edges, l[1], l[2], false) >= range(l, slip)[0];
                    boolean high = bound(edges, l[1], l[2], true) <= range(l, slip)[1];
                    told |= low && high ? 1 << i : 0;
                }
            }
            return told;
        }

        public int suspects() {
            int set = countingOn(day);
            int told = 0;
            for (int i = 0; i < letters.size(); i++) {
                told |= (set & 1 << i) != 0 && holds(set ^ 1 << i) ? 1 << i : 0;
            }
            return told;
        }

        public int dearest() {
            int set = countingOn(day);
            if (!holds(set) || set == 0) {
                return NONE;
            }
            int best = -1;
            int most = -1;
            for (int i = letters.size() - 1; i >= 0; i--) {
                if ((set & 1 << i) != 0) {
                    int all = allMany(edges(set ^ 1 << i, slip));
                    if (all >= most) {
                        most = all;
                        best = i;
                    }
                }
            }
            return best;
        }

        public int merge(int first, int others) {
            if (!hasAll(first) || !hasAll(others)) {
                return BEYOND;
            }
            return !holds(first) ? NONE : leaves(first, others & ~first).get(0);
        }

        boolean fitsWith(int letter, int what, int v) {
            int was = letters.get(letter)[what];
            letters.get(letter)[what] = v;
            boolean fits = fits() == 1;
            letters.get(letter)[what] = was;
            return fits;
        }

        public int kinds(int letter) {
            if (!has(letter)) {
                return BEYOND;
            }
            int set = 0;
            for (int kind = 0; kind < 7; kind++) {
                set |= fitsWith(letter, 0, kind) ? 1 << kind : 0;
            }
            return set;
        }

        List<Integer> daysThatFit(int letter) {
            List<Integer> days = new ArrayList<>();
            for (int d = -99; d <= 99; d++) {
                if (fitsWith(letter, 3, d)) {
                    days.add(d);
                }
            }
            return days;
        }

        public int days(int letter) {
            return has(letter) ? daysThatFit(letter).size() : BEYOND;
        }

        public int fewest(int letter) {
            if (!has(letter)) {
                return BEYOND;
            }
            List<Integer> days = daysThatFit(letter);
            return days.isEmpty() ? NONE : days.get(0);
        }

        public int tight() {
            int told = NONE;
            for (int s = 0; s < 10; s++) {
                told = solve(edges(countingOn(day), s)) == null ? s : told;
            }
            return told;
        }

        public int loses(int n) {
            if (!in(n, 1, 20)) {
                return BEYOND;
            }
            for (int i = 0; i < n; i++) {
                z = (int) (z * 1103515245L + 12345L);
                int number = (z >>> 8) & 15;
                if (number < letters.size()) {
                    letters.get(number)[5] = 1;
                }
            }
            return Integer.bitCount(struck());
        }

        public long odds(int n, int what) {
            if (!in(n, 0, 14) || !in(what, 0, 1)) {
                return BEYOND;
            }
            long above = 1;
            long line = 1;
            for (int i = 0; i < n; i++) {
                above *= 16 - Integer.bitCount(countingOn(day));
                line *= 16;
            }
            while (above % 2 == 0 && line % 2 == 0) {
                above /= 2;
                line /= 2;
            }
            return what == 0 ? above : line;
        }

        public int seed(int v) {
            int was = z;
            z = v;
            return was;
        }

        public int feed(int number, int n) {
            if (!in(n, 1, 4)) {
                return BEYOND;
            }
            if (tape.length() + n > 120) {
                return FULL;
            }
            char[] all = {(char) (number >>> 24), (char) (number >>> 16 & 255), (char) (number >>> 8 & 255), (char) (number & 255)};
            tape += new String(all, 4 - n, n);
            return tape.length();
        }

        public int wipe() {
            int had = tape.length();
            tape = "";
            return had;
        }

        public int text() {
            Text text = new Text(tape, letters.size());
            boolean good = text.read();
            tape = "";
            lastFree = true;
            if (!good) {
                return -1 - text.fault();
            }
            letters.addAll(text.letters);
            slip = text.slip < 0 ? slip : text.slip;
            frost = text.frost < 0 ? frost : text.frost;
            return text.items;
        }

        public int hold(int spot, int letter) {
            if (!in(spot, 0, 9) || !in(letter, -1, letters.size() - 1)) {
                return BEYOND;
            }
            spots[spot] = letter;
            return 1;
        }

        public int as(int spot, int kind) {
            if (!in(spot, 0, 9) || !in(kind, 0, 6)) {
                return BEYOND;
            }
            if (spots[spot] < 0) {
                return MISSING;
            }
            List<List<Integer>> under = List.of(List.of(0, 1, 2, 3, 4, 5, 6), List.of(1, 6), List.of(2, 3, 4),
                List.of(3, 4), List.of(4), List.of(5), List.of(6));
            return under.get(kind).contains(letters.get(spots[spot])[0]) ? spots[spot] : KIND;
        }

        public int sheet(int s, int b, int n) {
            if (!in(s, 0, 3) || !List.of(0, 8, 16, 32).contains(b)) {
                return BEYOND;
            }
            if (n < 0) {
                return SIZE;
            }
            if (n > 40) {
                return BEYOND;
            }
            bits[s] = b;
            sheets[s] = new int[b == 0 ? 0 : n];
            return sheets[s].length;
        }

        public int write(int s, int i, int v) {
            if (!in(s, 0, 3)) {
                return BEYOND;
            }
            if (bits[s] == 0) {
                return MISSING;
            }
            if (!in(i, 0, sheets[s].length - 1)) {
                return BEYOND;
            }
            sheets[s][i] = v << 32 - bits[s] >> 32 - bits[s];
            return 1;
        }

        public int copy(int s, int from, int t, int to, int n) {
            if (!in(s, 0, 3) || !in(t, 0, 3)) {
                return BEYOND;
            }
            if (bits[s] == 0 || bits[t] == 0) {
                return MISSING;
            }
            if (bits[s] != bits[t]) {
                return KIND;
            }
            if (from < 0 || to < 0 || n < 0 || (long) from + n > sheets[s].length || (long) to + n > sheets[t].length) {
                return BEYOND;
            }
            int[] were = sheets[s].clone();
            for (int i = 0; i < n; i++) {
                sheets[t][to + i] = were[from + i];
            }
            return n;
        }

        public int load(int s) {
            if (!in(s, 0, 3)) {
                return BEYOND;
            }
            if (bits[s] == 0) {
                return MISSING;
            }
            int came = 0;
            while (came < sheets[s].length && came < letters.size() && in(sheets[s][came], -99, 99)) {
                letters.get(came)[3] = sheets[s][came];
                came++;
            }
            return came;
        }

        int noMap(int s) {
            if (!in(s, 0, 3)) {
                return BEYOND;
            }
            if (bits[s] == 0) {
                return MISSING;
            }
            long low = Long.MAX_VALUE;
            long high = Long.MIN_VALUE;
            for (int v : sheets[s]) {
                low = Math.min(low, v);
                high = Math.max(high, v);
            }
            return sheets[s].length > 8 || sheets[s].length > 0 && high - low > 999 ? STATE : 0;
        }

        public int judge(int s) {
            if (noMap(s) != 0) {
                return noMap(s);
            }
            int set = 0;
            int n = sheets[s].length;
            for (int i = 0; i < letters.size(); i++) {
                int[] l = letters.get(i);
                if (counts(l, day) && l[1] < n && l[2] < n) {
                    long below = (long) sheets[s][l[2]] - sheets[s][l[1]];
                    set |= below < range(l, slip)[0] || below > range(l, slip)[1] ? 1 << i : 0;
                }
            }
            return set;
        }

        public int maps(int s) {
            if (noMap(s) != 0) {
                return noMap(s);
            }
            List<int[]> edges = edgesNow();
            for (int a = 0; a < sheets[s].length; a++) {
                for (int b = 0; b < sheets[s].length; b++) {
                    edges.add(new int[] {a, b, sheets[s][b] - sheets[s][a]});
                }
            }
            return solve(edges) != null ? 1 : 0;
        }

        void take(Model other) {
            letters = new ArrayList<>();
            for (int[] l : other.letters) {
                letters.add(l.clone());
            }
            slip = other.slip;
            frost = other.frost;
            day = other.day;
            z = other.z;
            spots = other.spots.clone();
        }

        public int image() {
            kept = new Model();
            kept.take(this);
            return 1;
        }

        public int undo() {
            if (kept == null) {
                return NONE;
            }
            take(kept);
            return day;
        }

        public int tear() {
            int had = kept == null ? 0 : 1;
            kept = null;
            return had;
        }

        public int count(int what) {
            if (!in(what, 0, 7)) {
                return BEYOND;
            }
            lastFree = what == 6;
            int days = 0;
            for (int[] l : letters) {
                days += l[3];
            }
            int held = 0;
            for (int spot : spots) {
                held += spot < 0 ? 0 : 1;
            }
            return new int[] {day, letters.size(), Integer.bitCount(countingOn(day)), Integer.bitCount(struck()), days,
                tape.length(), z, held}[what];
        }

        public int status(int which) {
            if (!in(which, -1, 6)) {
                return BEYOND;
            }
            return which >= 0 ? found[which] : Arrays.stream(found).sum();
        }
    }

    /** A text, cut into all its tokens first. */
    private static final class Text {
        private static final Pattern TOKEN = Pattern.compile("[a-z]+|[0-9]+|[^ ]", Pattern.DOTALL);

        final List<String> tokens = new ArrayList<>();
        final List<Integer> places = new ArrayList<>();
        final List<int[]> letters = new ArrayList<>();
        final int before;
        int slip = -1;
        int frost = -1;
        int items = 0;
        int at = 0;

        Text(String tape, int before) {
            this.before = before;
            Matcher m = TOKEN.matcher(tape);
            while (m.find()) {
                tokens.add(m.group());
                places.add(m.start());
            }
            tokens.add("");
            places.add(tape.length());
        }

        int fault() {
            return places.get(at);
        }

        String seen() {
            return tokens.get(at);
        }

        int number(int high) {
            String digits = seen().replaceFirst("^0+(?=.)", "");
            if (!digits.matches("[0-9]{1,3}") || Integer.parseInt(digits) > high) {
                return -1;
            }
            at++;
            return Integer.parseInt(digits);
        }

        boolean read() {
            while (true) {
                if (!item()) {
                    return false;
                }
                items++;
                if (seen().isEmpty()) {
                    return true;
                }
                if (!seen().equals(";")) {
                    return false;
                }
                at++;
            }
        }

        boolean item() {
            String word = seen();
            if (word.equals("slip") || word.equals("frost")) {
                at++;
                int v = number(9);
                slip = word.equals("slip") ? v : slip;
                frost = word.equals("frost") ? v : frost;
                return v >= 0;
            }
            int kind = Model.NAMES.indexOf(word);
            if (kind < 0 || before + letters.size() == 8) {
                return false;
            }
            at++;
            return letter(kind);
        }

        boolean letter(int kind) {
            int from = number(7);
            if (from < 0) {
                return false;
            }
            int to = number(7);
            if (to == from) {
                at--;
            }
            if (to < 0 || to == from || !seen().equals("days")) {
                return false;
            }
            at++;
            int sign = seen().equals("-") ? -1 : 1;
            at += sign < 0 ? 1 : 0;
            int days = number(99);
            if (days < 0) {
                return false;
            }
            int mark = 0;
            if (seen().equals("mark")) {
                at++;
                mark = number(999);
            }
            if (mark < 0) {
                return false;
            }
            int struck = seen().equals("struck") ? 1 : 0;
            at += struck;
            letters.add(new int[] {kind, from, to, sign * days, mark, struck});
            return true;
        }
    }
}
