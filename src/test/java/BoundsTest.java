import java.util.ArrayList;
import java.util.List;

/**
 * Each sentence of the document that names a bound: a call just inside it is answered, one just outside is refused by
 * the finding that is due, and that changes nothing but status(). What a call changes is told by twins: two offices
 * with the same calls behind them, of which the first one alone gets the call; then both are looked through.
 */
public final class BoundsTest {
    private static final int BEYOND = -1000001;
    private static final int FULL = BEYOND - 1;
    private static final int KIND = BEYOND - 2;
    private static final int NONE = BEYOND - 3;
    private static final int STATE = BEYOND - 4;
    private static final int MISSING = BEYOND - 5;
    private static final int SIZE = BEYOND - 6;
    private static final int BIG = Integer.MAX_VALUE;
    private static final int SMALL = Integer.MIN_VALUE;

    private static final int LETTER = 0;
    private static final int HASTY = 1;
    private static final int SEALED = 2;
    private static final int FORGED = 3;
    private static final int COPIED = 4;
    private static final int CARD = 5;
    private static final int LATE = 6;
    private static final String[] NAMES = {"letter", "hasty", "sealed", "forged", "copied", "card", "late"};

    private interface Scene {
        void set(FarPost x);
    }

    private interface Call {
        long on(FarPost x);
    }

    private interface NumberCall {
        long on(FarPost x, int v);
    }

    private interface PairCall {
        long on(FarPost x, int a, int b);
    }

    private static int wrong = 0;

    public static void main(String[] args) {
        newObject();
        letter();
        of();
        change();
        law();
        go();
        now();
        leastAndMost();
        comes();
        apart();
        fits();
        span();
        sureAndBelow();
        widestAndUnknown();
        can();
        when();
        ahead();
        known();
        agree();
        strikes();
        implied();
        suspects();
        dearest();
        merge();
        kinds();
        daysAndFewest();
        tight();
        loses();
        odds();
        seed();
        feedAndWipe();
        texts();
        textTokens();
        textNumbers();
        textEnds();
        textNinth();
        hold();
        as();
        sheet();
        write();
        copy();
        load();
        judge();
        maps();
        images();
        count();
        status();
        System.out.println(wrong == 0 ? "all answers are as due" : wrong + " answers are not as due");
        if (wrong != 0) {
            System.exit(1);
        }
    }

    // ---- how calls are judged

    private static void due(String sentence, long got, long want) {
        if (got != want) {
            wrong++;
            System.out.println("promise " + sentence + ": answered " + got + ", due is " + want);
        }
    }

    private static void same(String sentence, List<Long> got, List<Long> want) {
        for (int i = 0; i < want.size(); i++) {
            if (!got.get(i).equals(want.get(i))) {
                wrong++;
                System.out.println("promise " + sentence + ": look " + i + " answered " + got.get(i) + ", its twin "
                    + want.get(i));
                return;
            }
        }
    }

    private static FarPost made(Scene scene) {
        FarPost x = new FarPost();
        scene.set(x);
        return x;
    }

    /** Of all findings, then of each. */
    private static List<Long> statuses(FarPost x) {
        List<Long> told = new ArrayList<>();
        for (int which = -1; which < 7; which++) {
            told.add((long) x.status(which));
        }
        return told;
    }

    private static void refused(String sentence, Scene scene, int finding, Call call) {
        FarPost x = made(scene);
        FarPost twin = made(scene);
        List<Long> told = statuses(x);
        due(sentence, call.on(x), finding);
        told.set(0, told.get(0) + 1);
        told.set(1 + BEYOND - finding, told.get(1 + BEYOND - finding) + 1);
        same(sentence + ", status", statuses(x), told);
        same(sentence + ", changes nothing", look(x), look(twin));
    }

    /** A call that tells something, and changes nothing at all. */
    private static void asked(String sentence, Scene scene, long want, Call call) {
        FarPost x = made(scene);
        FarPost twin = made(scene);
        List<Long> told = statuses(x);
        due(sentence, call.on(x), want);
        same(sentence + ", status", statuses(x), told);
        same(sentence + ", changes nothing", look(x), look(twin));
    }

    private static void outside(String sentence, Scene scene, int low, int high, NumberCall call) {
        for (int v : new int[] {low - 1, high + 1, SMALL, BIG}) {
            refused(sentence + ", " + v, scene, BEYOND, x -> call.on(x, v));
        }
    }

    /** A question about a number from low to high. */
    private static void askRange(String sentence, Scene scene, int low, int high, NumberCall call) {
        for (int v : new int[] {low, high}) {
            long answer = call.on(made(scene), v);
            due(sentence + ", " + v + " is within", answer < -1000000 ? answer : 0, 0);
            asked(sentence + ", " + v, scene, answer, x -> call.on(x, v));
        }
        outside(sentence, scene, low, high, call);
    }

    /** An act with a number from low to high, that read tells behind it. */
    private static void actRange(String sentence, Scene scene, int low, int high, NumberCall call, Call read) {
        for (int v : new int[] {low, high}) {
            FarPost x = made(scene);
            List<Long> told = statuses(x);
            call.on(x, v);
            same(sentence + ", " + v + ", status", statuses(x), told);
            due(sentence + ", " + v, read.on(x), v);
        }
        outside(sentence, scene, low, high, call);
    }

    private static void askPair(String sentence, Scene scene, PairCall call) {
        askRange(sentence + " first", scene, 0, 7, (x, v) -> call.on(x, v, 3));
        askRange(sentence + " second", scene, 0, 7, (x, v) -> call.on(x, 3, v));
        for (int t = 0; t < 8; t++) {
            int town = t;
            refused(sentence + " also one and the same", scene, BEYOND, x -> call.on(x, town, town));
        }
        refused(sentence + " the same, and no town", scene, BEYOND, x -> call.on(x, 8, 8));
    }

    // ---- how offices are looked through (with all of it an office has less than its 512 calls)

    /** All that can be told of an office but status(); it isn't the same any more behind that. */
    private static List<Long> look(FarPost x) {
        List<Long> seen = new ArrayList<>();
        lookAtParts(x, seen);
        seen.add((long) x.text());
        lookAtParts(x, seen);
        for (int i = 0; i < 8; i++) {
            x.letter(LETTER, 0, 1, 0, 0);
        }
        for (int s = 0; s < 4; s++) {
            lookAtSheet(x, s, seen);
        }
        seen.add((long) x.undo());
        lookAtParts(x, seen);
        seen.add((long) x.tear());
        seen.add((long) x.undo());
        return seen;
    }

    private static void lookAtParts(FarPost x, List<Long> seen) {
        for (int what = 0; what < 8; what++) {
            seen.add((long) x.count(what));
        }
        seen.add((long) x.now(4));
        seen.add((long) x.now(5));
        for (int letter = 0; letter < 8; letter++) {
            for (int what = 0; what < 6; what++) {
                seen.add((long) x.of(letter, what));
            }
        }
        for (int spot = 0; spot < 10; spot++) {
            seen.add((long) x.as(spot, LETTER));
        }
    }

    private static void lookAtSheet(FarPost x, int s, List<Long> seen) {
        seen.add((long) x.load(s));
        lookAtDays(x, seen);
        for (int from = 8; from < 40 && x.copy(s, from, s, 0, 8) == 8; from += 8) {
            seen.add((long) x.load(s));
            lookAtDays(x, seen);
        }
        seen.add((long) x.write(s, 2, 0));
        // In 8 bits it is 5, in 16 it is 261, and in 32 more.
        seen.add((long) x.write(s, 0, 65536 + 256 + 5));
        seen.add((long) x.load(s));
        seen.add((long) x.write(s, 0, 65536 + 6));
        seen.add((long) x.load(s));
    }

    private static void lookAtDays(FarPost x, List<Long> seen) {
        for (int letter = 0; letter < 8; letter++) {
            seen.add((long) x.of(letter, 3));
        }
    }

    // ---- offices to begin with

    private static void blank(FarPost x) {
    }

    /** Five letters, of which some count, one is struck and one is to come; all else holds something, too. */
    private static void busy(FarPost x) {
        x.letter(LETTER, 0, 1, 5, 0);
        x.letter(HASTY, 1, 2, -6, 1);
        x.letter(FORGED, 2, 3, 7, 0);
        x.law(0, 1);
        x.law(1, 2);
        x.hold(1, 2);
        x.seed(99);
        x.go(3);
        x.image();
        x.letter(COPIED, 3, 4, 8, 2);
        x.letter(CARD, 4, 5, -3, 400);
        x.change(2, 3, 9);
        x.change(1, 5, 1);
        x.law(0, 2);
        x.law(1, 3);
        x.hold(0, 0);
        x.hold(1, -1);
        x.hold(9, 4);
        x.seed(-1234567);
        x.go(20);
        fill(x, 1, 16, 10, 15, 3);
        x.sheet(2, 32, 0);
        fill(x, 0, 8, new int[40]);
        for (int i = 0; i < 5; i++) {
            x.write(0, 9 * i, 7 * i - 20);
        }
        feedAll(x, "slip 4;card 5 6 days 1");
        x.of(9, 9);
        x.as(5, LETTER);
    }

    /** Eight letters, and a tape of 120 bytes. */
    private static void full(FarPost x) {
        busy(x);
        x.letter(SEALED, 5, 6, 4, 7);
        x.letter(LATE, 6, 7, 3, 8);
        x.letter(CARD, 0, 7, 2, 900);
        x.wipe();
        feedAll(x, "slip 1;frost 2;".repeat(7) + "slip 3;frost 4 ");
    }

    /** No map fits. */
    private static void stuck(FarPost x) {
        busy(x);
        x.letter(FORGED, 0, 1, 50, 0);
    }

    /** All towns are sure with one another: town t has the place 10 t. */
    private static void chain(FarPost x) {
        for (int t = 0; t < 7; t++) {
            x.letter(FORGED, t, t + 1, -10, 0);
        }
    }

    private static void fill(FarPost x, int s, int bits, int... numbers) {
        x.sheet(s, bits, numbers.length);
        for (int i = 0; i < numbers.length; i++) {
            if (numbers[i] != 0) {
                x.write(s, i, numbers[i]);
            }
        }
    }

    private static void feedAll(FarPost x, String text) {
        int at = 0;
        while (at < text.length()) {
            int n = Math.min(4, text.length() - at);
            int number = 0;
            for (int i = 0; i < n; i++) {
                number = number << 8 | text.charAt(at + i);
            }
            x.feed(number, n);
            at += n;
        }
    }

    private static void goTo(FarPost x, int day) {
        while (x.now(0) < day) {
            x.go(Math.min(200, day - x.now(0)));
        }
    }

    // ---- promises 1 to 7

    private static void newObject() {
        FarPost other = made(BoundsTest::full);
        FarPost x = new FarPost();
        int[] counts = {0, 0, 0, 0, 0, 0, 1, 0};
        for (int what = 0; what < 8; what++) {
            due("1 All as at first, count(" + what + ")", x.count(what), counts[what]);
        }
        due("1 SLIP 0 at first", x.now(4), 0);
        due("1 FROST 0 at first", x.now(5), 0);
        due("1 no finding has been answered", x.status(-1), 0);
        for (int spot = 0; spot < 10; spot++) {
            due("1 SPOTS hold nothing at first", x.as(spot, LETTER), MISSING);
        }
        for (int s = 0; s < 4; s++) {
            due("1 SHEETS are MISSING at first", x.load(s), MISSING);
        }
        due("1 THE TAPE is empty", x.wipe(), 0);
        due("1 no image is kept", x.tear(), 0);
        due("1 the first LETTER is 0", x.letter(LETTER, 0, 1, 0, 0), 0);
        due("1 it isn't STRUCK at first", x.of(0, 5), 0);
        due("1 the other office has all of its own", other.count(1), 8);
    }

    private static void letter() {
        Scene scene = BoundsTest::busy;
        actRange("2 KINDS 0 to 6", scene, 0, 6, (x, v) -> x.letter(v, 0, 1, 5, 5), x -> x.of(5, 0));
        actRange("2 FROM is a TOWN", scene, 0, 7, (x, v) -> x.letter(LETTER, v, 3, 5, 5), x -> x.of(5, 1));
        actRange("2 TO is a TOWN", scene, 0, 7, (x, v) -> x.letter(LETTER, 3, v, 5, 5), x -> x.of(5, 2));
        actRange("2 DAYS -99 to 99", scene, -99, 99, (x, v) -> x.letter(LETTER, 0, 1, v, 5), x -> x.of(5, 3));
        actRange("2 a MARK 0 to 999", scene, 0, 999, (x, v) -> x.letter(LETTER, 0, 1, 5, v), x -> x.of(5, 4));
        for (int t = 0; t < 8; t++) {
            int town = t;
            refused("2 BEYOND: also FROM and TO one and the same", scene, BEYOND, x -> x.letter(LETTER, town, town, 0, 0));
        }
        FarPost x = new FarPost();
        for (int i = 0; i < 8; i++) {
            due("2 LETTERS at most 8", x.letter(i % 7, i, (i + 1) % 8, i, i), i);
        }
        due("2 the 8th one is there", x.of(7, 2), 0);
        refused("2 FULL", BoundsTest::full, FULL, y -> y.letter(LETTER, 0, 1, 0, 0));
        int[][] both = {{7, 0, 1, 0, 0}, {0, 8, 1, 0, 0}, {0, 0, -1, 0, 0}, {0, 2, 2, 0, 0}, {0, 0, 1, 100, 0},
            {0, 0, 1, 0, 1000}};
        for (int[] b : both) {
            refused("2 BEYOND ahead of FULL", BoundsTest::full, BEYOND, y -> y.letter(b[0], b[1], b[2], b[3], b[4]));
        }
    }

    private static void of() {
        askRange("3 a LETTER", BoundsTest::busy, 0, 4, (x, v) -> x.of(v, 0));
        askRange("3 a LETTER of 8", BoundsTest::full, 0, 7, (x, v) -> x.of(v, 0));
        askRange("3 what 0 to 9", BoundsTest::busy, 0, 9, (x, v) -> x.of(4, v));
        refused("3 no LETTERS", BoundsTest::blank, BEYOND, x -> x.of(0, 0));
    }

    private static void change() {
        Scene scene = BoundsTest::busy;
        actRange("4 KIND", scene, 0, 6, (x, v) -> x.change(4, 0, v), x -> x.of(4, 0));
        actRange("4 FROM", scene, 0, 7, (x, v) -> x.change(4, 1, v), x -> x.of(4, 1));
        actRange("4 TO", scene, 0, 7, (x, v) -> x.change(3, 2, v), x -> x.of(3, 2));
        actRange("4 DAYS", scene, -99, 99, (x, v) -> x.change(4, 3, v), x -> x.of(4, 3));
        actRange("4 MARK", scene, 0, 999, (x, v) -> x.change(4, 4, v), x -> x.of(4, 4));
        actRange("4 STRUCK", scene, 0, 1, (x, v) -> x.change(4, 5, v), x -> x.of(4, 5));
        refused("4 BEYOND: also FROM and TO one and the same, FROM", scene, BEYOND, x -> x.change(4, 1, 5));
        refused("4 BEYOND: also FROM and TO one and the same, TO", scene, BEYOND, x -> x.change(4, 2, 4));
        asked("4 it may become what it is, FROM", scene, 4, x -> x.change(4, 1, 4));
        asked("4 it may become what it is, TO", scene, 5, x -> x.change(4, 2, 5));
        outside("4 what 0 to 5", scene, 0, 5, (x, v) -> x.change(4, v, 0));
        outside("4 a LETTER", scene, 0, 4, (x, v) -> x.change(v, 3, 1));
        int[][] becomes = {{0, LATE}, {1, 0}, {2, 7}, {3, 99}, {4, 999}, {5, 1}};
        for (int[] b : becomes) {
            changesAlone(b[0], b[1]);
        }
        FarPost x = made(scene);
        due("4 the first LETTER", x.change(0, 3, -1), 5);
        due("4 the last LETTER", x.change(4, 3, -2), -3);
        due("4 no other one", x.count(4), -1 - 6 + 9 + 8 - 2);
    }

    private static void changesAlone(int what, int v) {
        int[] parts = {COPIED, 3, 4, 8, 2, 0};
        FarPost x = made(BoundsTest::busy);
        due("4 what " + what + " was", x.change(3, what, v), parts[what]);
        parts[what] = v;
        for (int other = 0; other < 6; other++) {
            due("4 what " + what + " becomes " + v + ", what " + other, x.of(3, other), parts[other]);
        }
    }

    private static void law() {
        actRange("5 SLIP 0 to 9", BoundsTest::busy, 0, 9, (x, v) -> x.law(0, v), x -> x.now(4));
        actRange("5 FROST 0 to 9", BoundsTest::busy, 0, 9, (x, v) -> x.law(1, v), x -> x.now(5));
        outside("5 what 0, 1", BoundsTest::busy, 0, 1, (x, v) -> x.law(v, 5));
    }

    private static void go() {
        actRange("6 n 1 to 200", BoundsTest::busy, 1, 200, (x, v) -> x.go(v), x -> x.now(0) - 23);
        FarPost x = new FarPost();
        x.letter(FORGED, 0, 1, 5, 0);
        for (int i = 0; i < 499; i++) {
            x.go(200);
        }
        due("6 STATE: DAY would be above 99999", x.go(200), STATE);
        due("6 BEYOND ahead of STATE", x.go(201), BEYOND);
        due("6 DAY stays", x.now(0), 99800);
        due("6 DAY 99999", x.go(199), 1);
        due("6 STATE behind it", x.go(1), STATE);
        due("6 DAY 99999 stays", x.count(0), 99999);
        due("6 status", x.status(4), 2);
        due("16 ahead of the last day", x.ahead(500), 1);
        due("17 known on the last day", x.known(0, 1), 0);
        due("15 when on the last day", x.when(), NONE);
        FarPost y = new FarPost();
        for (int i = 0; i < 498; i++) {
            y.go(200);
        }
        y.go(199);
        due("6 200 days to DAY 99999", y.go(200), 0);
        due("6 DAY 99999 is told", y.now(0), 99999);
    }

    private static void now() {
        askRange("7 what 0 to 5", BoundsTest::busy, 0, 5, (x, v) -> x.now(v));
        int[] told = {23, 1 + 4 + 8, 16, 2, 2, 3};
        for (int what = 0; what < 6; what++) {
            int w = what;
            asked("7 what " + w, BoundsTest::busy, told[w], x -> x.now(w));
        }
    }

    // ---- letters in maps, the days on which they come

    /** A letter alone, with FROM 2 and TO 5, on a day on which it counts. */
    private static FarPost alone(int kind, int slip, int days) {
        FarPost x = new FarPost();
        x.law(0, slip);
        x.letter(kind, 2, 5, days, 0);
        x.go(200);
        return x;
    }

    private static void leastAndMost() {
        int[][] tables = {{3, 20, 17, 23, -999, 23, 20, 20, -20, -20, -21, -19, 14, 26, -999, 28},
            {9, 99, 90, 108, -999, 108, 99, 99, -99, -99, -100, -98, 81, 117, -999, 113},
            {9, -99, -108, -90, -999, -90, -99, -99, 99, 99, 98, 100, -117, -81, -999, -85},
            {0, 0, 0, 0, -999, 0, 0, 0, 0, 0, -1, 1, 0, 0, -999, 5}};
        for (int[] t : tables) {
            for (int kind = 0; kind < 7; kind++) {
                holds(NAMES[kind] + ", SLIP " + t[0] + ", DAYS " + t[1], alone(kind, t[0], t[1]), t[2 + 2 * kind],
                    t[3 + 2 * kind]);
            }
        }
    }

    private static void holds(String name, FarPost x, int least, int most) {
        due("3 LEAST of a " + name, x.of(0, 6), least);
        due("3 MOST of a " + name, x.of(0, 7), most);
        due("9 the least of a " + name, x.span(2, 5, 0), least);
        due("9 the most of a " + name, x.span(2, 5, 1), most);
        due("9 how many of a " + name, x.span(2, 5, 2), most - least + 1);
        int[] belows = {least, least - 1, most, most + 1};
        for (int i = 0; i < 4; i++) {
            int below = belows[i];
            boolean farther = below < -999;
            due("14 BELOW " + below + " of a " + name, x.can(2, 5, below), farther ? BEYOND : 1 - i % 2);
            due("14 the other way", x.can(5, 2, -below), farther ? BEYOND : 1 - i % 2);
            fill(x, 0, 16, 0, 0, 30, 30, 30, 30 + below);
            if (Math.abs(below) <= 969) {
                due("41 BELOW " + below + " of a " + name, x.judge(0), i % 2);
                due("42 BELOW " + below + " of a " + name, x.maps(0), 1 - i % 2);
            }
        }
        fill(x, 0, 16, 0, 0, 0, 0, 0, least);
        due("41 LEAST of a " + name, x.judge(0), 0);
    }

    private static void comes() {
        // By kind: COMES with DAYS 7, then with 99, then with 1, where MARK is 10 and FROST 3.
        int[][] tables = {{20, 112, 14}, {13, 59, 10}, {21, 113, 15}, {10, 10, 10}, {12, 12, 12}, {20, 112, 14},
            {23, 69, 20}};
        int[] days = {7, 99, 1};
        for (int kind = 0; kind < 7; kind++) {
            for (int i = 0; i < 3; i++) {
                comesOn(kind, days[i], 10, 3, tables[kind][i]);
                comesOn(kind, -days[i], 10, 3, tables[kind][i]);
            }
        }
        comesOn(SEALED, 99, 999, 9, 1108);
        comesOn(LATE, -99, 999, 9, 1058);
        comesOn(FORGED, 99, 0, 9, 0);
        comesOn(LETTER, 0, 0, 0, 0);
        comesOn(SEALED, 0, 0, 0, 1);
    }

    private static void comesOn(int kind, int days, int mark, int frost, int day) {
        String name = NAMES[kind] + " of " + days + " DAYS COMES";
        FarPost x = new FarPost();
        x.law(1, frost);
        x.letter(kind, 0, 1, days, mark);
        due("3 a " + name, x.of(0, 8), day);
        if (day > 0) {
            goTo(x, day - 1);
            due("7 a " + name + " not a DAY ahead of it", x.now(1), 0);
            due("7 a " + name + ", it hasn't yet", x.now(2), 1);
            due("3 a " + name + ", doesn't COUNT", x.of(0, 9), 0);
            due("16 a " + name + " not yet", x.ahead(0), 0);
            due("16 a " + name + " a DAY on", x.ahead(1), 1);
            due("6 a " + name + " then", x.go(1), 1);
        }
        due("7 a " + name + " on its DAY", x.now(1), 1);
        due("7 a " + name + ", it has", x.now(2), 0);
        due("3 a " + name + ", COUNTS", x.of(0, 9), 1);
        due("46 a " + name + ", counted", x.count(2), 1);
        x.go(1);
        due("7 a " + name + " behind its DAY, too", x.now(1), 1);
        x.change(0, 5, 1);
        due("7 a " + name + ", STRUCK, doesn't COUNT", x.now(1), 0);
        due("7 a " + name + ", STRUCK", x.now(3), 1);
    }

    private static void apart() {
        FarPost x = new FarPost();
        due("9 no two TOWNS more than 999 apart, least", x.span(0, 1, 0), -999);
        due("9 no two TOWNS more than 999 apart, most", x.span(0, 1, 1), 999);
        due("9 from -999 to 999 there are", x.span(0, 1, 2), 1999);
        x.letter(FORGED, 0, 1, -5, 0);
        int[][] canBe = {{1, 2, 994}, {1, 2, -999}, {0, 2, 999}, {0, 2, -994}, {2, 3, 999}, {2, 3, -999}};
        int[][] cannot = {{1, 2, 995}, {0, 2, -995}, {1, 2, 999}, {0, 2, -999}};
        for (int[] c : canBe) {
            due("14 BELOW of " + c[0] + ", " + c[1] + " can be " + c[2], x.can(c[0], c[1], c[2]), 1);
        }
        for (int[] c : cannot) {
            due("14 BELOW of " + c[0] + ", " + c[1] + " cannot be " + c[2], x.can(c[0], c[1], c[2]), 0);
        }
        due("9 most by way of 0", x.span(1, 2, 1), 994);
        due("9 least by way of 1", x.span(0, 2, 0), -994);
    }

    // ---- promises 8 to 17

    private static void fits() {
        asked("8 no LETTERS", BoundsTest::blank, 1, x -> x.fits());
        asked("8 some", BoundsTest::busy, 1, x -> x.fits());
        asked("8 no MAP FITS", BoundsTest::stuck, 0, x -> x.fits());
        FarPost x = new FarPost();
        x.letter(FORGED, 0, 1, -5, 0);
        x.letter(COPIED, 1, 0, 3, 0);
        x.go(1);
        due("8 on the DAY ahead", x.fits(), 1);
        x.go(1);
        due("8 5, not 2 to 4", x.fits(), 0);
        x.change(1, 3, 4);
        due("8 5, of 3 to 5", x.fits(), 1);
        x.change(1, 3, 6);
        due("8 5, of 5 to 7", x.fits(), 1);
        x.change(1, 3, 7);
        due("8 5, not 6 to 8", x.fits(), 0);
    }

    private static void span() {
        askPair("9 two TOWNS", BoundsTest::busy, (x, a, b) -> x.span(a, b, 0));
        askRange("9 what 0 to 2", BoundsTest::busy, 0, 2, (x, v) -> x.span(0, 1, v));
        for (int what = 0; what < 3; what++) {
            int w = what;
            refused("9 NONE: no MAP FITS", BoundsTest::stuck, NONE, x -> x.span(6, 7, w));
        }
        refused("9 BEYOND ahead of NONE, the same", BoundsTest::stuck, BEYOND, x -> x.span(6, 6, 0));
        refused("9 BEYOND ahead of NONE, what", BoundsTest::stuck, BEYOND, x -> x.span(6, 7, 3));
    }

    private static void sureAndBelow() {
        askRange("10 a TOWN", BoundsTest::busy, 0, 7, (x, v) -> x.sure(v));
        refused("10 NONE: no MAP FITS", BoundsTest::stuck, NONE, x -> x.sure(7));
        refused("10 BEYOND ahead of NONE", BoundsTest::stuck, BEYOND, x -> x.sure(8));
        asked("10 itself, too", BoundsTest::blank, 128, x -> x.sure(7));
        asked("10 all", BoundsTest::chain, 255, x -> x.sure(4));
        asked("10 two", BoundsTest::busy, 4 + 8, x -> x.sure(3));
        askRange("11 a TOWN", BoundsTest::busy, 0, 7, (x, v) -> x.below(v));
        refused("11 NONE: no MAP FITS", BoundsTest::stuck, NONE, x -> x.below(7));
        refused("11 BEYOND ahead of NONE", BoundsTest::stuck, BEYOND, x -> x.below(-1));
        asked("11 none below the last", BoundsTest::chain, 0, x -> x.below(7));
        asked("11 all others below the first", BoundsTest::chain, 254, x -> x.below(0));
        asked("11 a chain", BoundsTest::chain, 128 + 64 + 32, x -> x.below(4));
        FarPost x = new FarPost();
        x.letter(COPIED, 0, 1, -1, 0);
        x.letter(COPIED, 0, 2, -2, 0);
        x.go(2);
        due("11 BELOW above 0: 1 to 3, not 0 to 2", x.below(0), 4);
        x.letter(FORGED, 7, 0, -3, 0);
        due("11 TOWN 0 below the last", x.below(7), 1 + 2 + 4);
    }

    private static void widestAndUnknown() {
        refused("12 NONE: no MAP FITS", BoundsTest::stuck, NONE, x -> x.widest());
        refused("13 NONE: no MAP FITS", BoundsTest::stuck, NONE, x -> x.unknown());
        asked("12 the least pair", BoundsTest::chain, 1, x -> x.widest());
        asked("12 the least pair of all that are unknown", BoundsTest::blank, 1, x -> x.widest());
        asked("13 nothing is unknown", BoundsTest::chain, 28, x -> x.unknown());
        asked("13 all is unknown", BoundsTest::blank, 28 * 1999, x -> x.unknown());
        FarPost x = new FarPost();
        chain(x);
        x.change(6, 5, 1);
        x.letter(COPIED, 7, 6, 3, 0);
        x.go(2);
        due("12 town 7 and the least", x.widest(), 7);
        due("13 seven pairs of 3", x.unknown(), 21 + 7 * 3);
        x.change(5, 0, COPIED);
        x.change(7, 1, 5);
        x.change(7, 2, 7);
        due("12 the last pair: both slip", x.widest(), 8 * 6 + 7);
        due("13 5 of it, and 3 of twelve", x.unknown(), 15 + 12 * 3 + 5);
    }

    private static void can() {
        askPair("14 two TOWNS", BoundsTest::busy, (x, a, b) -> x.can(a, b, 1));
        askRange("14 v -999 to 999", BoundsTest::busy, -999, 999, (x, v) -> x.can(6, 7, v));
        asked("14 -999", BoundsTest::blank, 1, x -> x.can(6, 7, -999));
        asked("14 999", BoundsTest::blank, 1, x -> x.can(6, 7, 999));
        asked("14 no MAP FITS: no finding", BoundsTest::stuck, 0, x -> x.can(6, 7, 0));
        refused("14 beyond where no MAP FITS", BoundsTest::stuck, BEYOND, x -> x.can(6, 7, 1000));
    }

    /** Two letters that can't hold together, the later one with a mark. */
    private static Scene quarrel(int mark) {
        return x -> {
            x.letter(FORGED, 0, 1, 5, 0);
            x.letter(FORGED, 0, 1, 6, mark);
        };
    }

    private static void when() {
        asked("15 now", BoundsTest::stuck, 0, x -> x.when());
        asked("15 behind 1 DAY", quarrel(1), 1, x -> x.when());
        asked("15 behind 499 DAYS", quarrel(499), 499, x -> x.when());
        asked("15 behind 500 DAYS", quarrel(500), 500, x -> x.when());
        refused("15 NONE behind 501", quarrel(501), NONE, x -> x.when());
        refused("15 NONE", BoundsTest::busy, NONE, x -> x.when());
        refused("15 NONE, no LETTERS", BoundsTest::blank, NONE, x -> x.when());
        FarPost x = made(quarrel(700));
        x.go(199);
        due("15 501 DAYS from DAY 199", x.when(), NONE);
        x.go(1);
        due("15 500 DAYS from DAY 200", x.when(), 500);
    }

    private static void ahead() {
        askRange("16 n 0 to 500", BoundsTest::busy, 0, 500, (x, v) -> x.ahead(v));
        asked("16 now", BoundsTest::busy, 13, x -> x.ahead(0));
        // The card COMES on DAY 406, and DAY is 23.
        asked("16 behind 382", BoundsTest::busy, 13, x -> x.ahead(382));
        asked("16 behind 383", BoundsTest::busy, 29, x -> x.ahead(383));
        asked("16 behind 499", quarrel(500), 1, x -> x.ahead(499));
        asked("16 behind 500", quarrel(500), 3, x -> x.ahead(500));
    }

    private static Scene later(int mark) {
        return x -> x.letter(FORGED, 0, 1, 5, mark);
    }

    private static void known() {
        askPair("17 two TOWNS", BoundsTest::chain, (x, a, b) -> x.known(a, b));
        asked("17 now", later(0), 0, x -> x.known(0, 1));
        asked("17 behind 1 DAY", later(1), 1, x -> x.known(1, 0));
        asked("17 behind 500 DAYS", later(500), 500, x -> x.known(0, 1));
        refused("17 NONE behind 501", later(501), NONE, x -> x.known(0, 1));
        refused("17 NONE", later(0), NONE, x -> x.known(0, 2));
        refused("17 a MAP FITS then", BoundsTest::stuck, NONE, x -> x.known(2, 3));
        refused("17 BEYOND ahead of NONE", BoundsTest::stuck, BEYOND, x -> x.known(2, 2));
        refused("17 NONE, no LETTERS", BoundsTest::blank, NONE, x -> x.known(0, 1));
        FarPost x = new FarPost();
        x.letter(COPIED, 0, 1, 0, 0);
        x.letter(FORGED, 0, 1, 1, 9);
        x.letter(FORGED, 0, 1, 2, 4);
        due("17 no MAP FITS on DAY 4, nor later", x.known(0, 1), NONE);
        x.change(2, 3, 1);
        due("17 then on DAY 4", x.known(0, 1), 4);
    }

    // ---- promises 18 to 28

    private static void agree() {
        askRange("18 of those that there are", BoundsTest::busy, 0, 31, (x, v) -> x.agree(v));
        askRange("18 of 8", BoundsTest::full, 0, 255, (x, v) -> x.agree(v));
        askRange("18 of none", BoundsTest::blank, 0, 0, (x, v) -> x.agree(v));
        refused("18 one that isn't there, with one that is", BoundsTest::busy, BEYOND, x -> x.agree(33));
        asked("18 where no MAP FITS", BoundsTest::stuck, 0, x -> x.agree(33));
        asked("18 others where no MAP FITS", BoundsTest::stuck, 1, x -> x.agree(30));
        asked("18 STRUCK or not, come or not", quarrel(999), 0, x -> x.change(0, 5, 0) + x.agree(3));
    }

    private static void strikes() {
        asked("19 no LETTERS", BoundsTest::blank, 0, x -> x.strike());
        asked("20 no LETTERS", BoundsTest::blank, 1, x -> x.strikes());
        asked("19 a MAP FITS", BoundsTest::busy, 0, x -> x.strike());
        asked("20 a MAP FITS", BoundsTest::busy, 1, x -> x.strikes());
        asked("19 of several the least", BoundsTest::stuck, 1, x -> x.strike());
        asked("20 of several", BoundsTest::stuck, 2, x -> x.strikes());
        Scene eight = x -> {
            for (int i = 0; i < 8; i++) {
                x.letter(FORGED, 0, 1, i, 0);
            }
        };
        asked("19 but one of 8", eight, 127, x -> x.strike());
        asked("20 but one of 8", eight, 8, x -> x.strikes());
        FarPost x = made(eight);
        for (int i = 4; i < 8; i++) {
            x.change(i, 3, 0);
        }
        due("19 the fewest, not the least", x.strike(), 2 + 4 + 8);
        due("20 one set of the fewest", x.strikes(), 1);
        x.change(7, 5, 1);
        due("19 one is STRUCK", x.strike(), 2 + 4 + 8);
        x.change(0, 3, 77);
        due("19 three against four", x.strike(), 1 + 2 + 4 + 8);
        FarPost y = made(BoundsTest::chain);
        y.letter(FORGED, 0, 2, -21, 0);
        y.change(1, 3, -11);
        y.change(7, 1, 1);
        y.change(7, 2, 0);
        y.change(7, 3, 11);
        due("19 LETTER 0, the first, alone", y.strike(), 1);
        due("20 either of both of its round", y.strikes(), 2);
        y.change(1, 1, 0);
        y.change(1, 2, 1);
        due("20 LETTER 0 alone", y.strikes(), 1);
    }

    private static void implied() {
        refused("21 NONE: no MAP FITS", BoundsTest::stuck, NONE, x -> x.implied());
        asked("21 no LETTERS", BoundsTest::blank, 0, x -> x.implied());
        asked("21 each tells its own", BoundsTest::chain, 0, x -> x.implied());
        FarPost x = made(BoundsTest::chain);
        x.letter(COPIED, 0, 7, -71, 0);
        x.go(1);
        due("21 it doesn't COUNT", x.implied(), 0);
        x.go(1);
        due("21 70 of 70 to 72", x.implied(), 128);
        x.change(7, 3, -69);
        due("21 70 of 68 to 70", x.implied(), 128);
        x.change(0, 0, COPIED);
        due("21 69 to 71, not all of 68 to 70", x.implied(), 0);
        x.change(7, 3, -71);
        due("21 69 to 71, not all of 70 to 72", x.implied(), 0);
        x.change(7, 3, -70);
        due("21 69 to 71, all, and so is the first", x.implied(), 129);
    }

    private static void suspects() {
        asked("22 no LETTERS", BoundsTest::blank, 0, x -> x.suspects());
        asked("22 if one FITS now: all that COUNT", BoundsTest::busy, 13, x -> x.suspects());
        asked("22 either of two", BoundsTest::stuck, 33, x -> x.suspects());
        FarPost x = made(BoundsTest::stuck);
        x.letter(FORGED, 2, 3, 50, 0);
        due("22 none alone", x.suspects(), 0);
        due("22 it is no finding", x.status(3), 0);
    }

    private static void dearest() {
        refused("23 NONE: no MAP FITS", BoundsTest::stuck, NONE, x -> x.dearest());
        refused("23 NONE: no LETTERS", BoundsTest::blank, NONE, x -> x.dearest());
        refused("23 NONE: none has come", later(1), NONE, x -> x.dearest());
        asked("23 one COUNTS", later(0), 0, x -> x.dearest());
        FarPost x = made(later(0));
        x.change(0, 5, 1);
        due("23 NONE: it is STRUCK", x.dearest(), NONE);
        x.letter(FORGED, 2, 3, 0, 0);
        due("23 the one that COUNTS", x.dearest(), 1);
        x.letter(FORGED, 4, 5, 0, 0);
        due("23 of two alike the least", x.dearest(), 1);
        x.change(1, 0, COPIED);
        x.go(2);
        due("23 the one that tells more", x.dearest(), 2);
        x.change(0, 5, 0);
        due("23 of two alike LETTER 0", x.dearest(), 0);
    }

    private static void merge() {
        askRange("24 letters of those that there are", BoundsTest::busy, 0, 31, (x, v) -> x.merge(v, 1));
        askRange("24 others of those that there are", BoundsTest::busy, 0, 31, (x, v) -> x.merge(1, v));
        askRange("24 letters of 8", BoundsTest::full, 0, 255, (x, v) -> x.merge(v, v));
        askRange("24 of none", BoundsTest::blank, 0, 0, (x, v) -> x.merge(v, v));
        refused("24 NONE: the first can't HOLD together", BoundsTest::stuck, NONE, x -> x.merge(33, 0));
        refused("24 BEYOND ahead of NONE", BoundsTest::stuck, BEYOND, x -> x.merge(33, 64));
        refused("24 BEYOND ahead of NONE, below 0", BoundsTest::stuck, BEYOND, x -> x.merge(33, -1));
        asked("24 but those of the first", BoundsTest::stuck, 1, x -> x.merge(32, 63));
        asked("24 of several the least", BoundsTest::stuck, 1, x -> x.merge(0, 33));
        asked("24 the others hold", BoundsTest::stuck, 0, x -> x.merge(32, 30));
    }

    private static void kinds() {
        askRange("25 a LETTER", BoundsTest::busy, 0, 4, (x, v) -> x.kinds(v));
        refused("25 no LETTERS", BoundsTest::blank, BEYOND, x -> x.kinds(0));
        asked("25 all: it is STRUCK", BoundsTest::busy, 127, x -> x.kinds(1));
        asked("25 none: others can't HOLD", BoundsTest::stuck, 0, x -> x.kinds(2));
        asked("25 none: it is STRUCK, others can't HOLD", BoundsTest::stuck, 0, x -> x.kinds(1));
        FarPost x = new FarPost();
        x.law(0, 1);
        x.letter(FORGED, 0, 1, -5, 0);
        x.letter(LETTER, 0, 1, 3, 190);
        goTo(x, 189);
        due("25 no kind of it has come", x.kinds(1), 127);
        x.go(1);
        due("25 a forged one has", x.kinds(1), 127 - (1 << FORGED));
        x.go(1);
        due("25 a hasty one has", x.kinds(1), 127 - (1 << FORGED) - (1 << HASTY));
        x.go(1);
        due("25 a copied one has", x.kinds(1), 127 - (1 << FORGED) - (1 << HASTY) - (1 << COPIED));
        x.go(1);
        due("25 a letter has, a card may be", x.kinds(1), 1 << SEALED | 1 << CARD | 1 << LATE);
        x.go(1);
        due("25 a sealed one has", x.kinds(1), 1 << CARD | 1 << LATE);
        x.change(1, 3, 2);
        x.go(20);
        due("25 2 is too far from 5 for a card", x.kinds(1), 1 << LATE);
    }

    private static void daysAndFewest() {
        askRange("26 a LETTER", BoundsTest::busy, 0, 4, (x, v) -> x.days(v));
        askRange("27 a LETTER", BoundsTest::busy, 0, 4, (x, v) -> x.fewest(v));
        refused("26 no LETTERS", BoundsTest::blank, BEYOND, x -> x.days(0));
        refused("27 no LETTERS", BoundsTest::blank, BEYOND, x -> x.fewest(0));
        asked("26 -99 to 99, all", BoundsTest::busy, 199, x -> x.days(1));
        asked("27 -99 to 99, all", BoundsTest::busy, -99, x -> x.fewest(1));
        asked("26 none: others can't HOLD", BoundsTest::stuck, 0, x -> x.days(2));
        refused("27 NONE: others can't HOLD", BoundsTest::stuck, NONE, x -> x.fewest(2));
        refused("27 NONE: STRUCK, others can't HOLD", BoundsTest::stuck, NONE, x -> x.fewest(1));
        refused("27 BEYOND ahead of NONE", BoundsTest::stuck, BEYOND, x -> x.fewest(6));
        FarPost x = new FarPost();
        x.letter(FORGED, 0, 1, -99, 0);
        x.letter(FORGED, 1, 2, -1, 0);
        x.letter(SEALED, 0, 2, 0, 0);
        x.go(100);
        due("26 100 is beyond 99", x.days(2), 0);
        due("27 100 is beyond 99", x.fewest(2), NONE);
        x.change(1, 3, 0);
        due("26 99 alone", x.days(2), 1);
        due("27 99 alone", x.fewest(2), 99);
        x.law(1, 1);
        due("26 -99 and 99 haven't come", x.days(2), 2);
        due("27 -99 hasn't come", x.fewest(2), -99);
    }

    private static Scene tightWith(int days) {
        return x -> {
            x.letter(FORGED, 0, 1, 0, 0);
            x.letter(LETTER, 0, 1, days, 0);
            x.go(99);
        };
    }

    private static void tight() {
        refused("28 NONE: no LETTERS", BoundsTest::blank, NONE, x -> x.tight());
        refused("28 NONE: with each one does", tightWith(0), NONE, x -> x.tight());
        asked("28 SLIP 0", tightWith(1), 0, x -> x.tight());
        asked("28 SLIP 8", tightWith(-9), 8, x -> x.tight());
        asked("28 SLIP 9", tightWith(10), 9, x -> x.tight());
        asked("28 the greatest one", BoundsTest::stuck, 9, x -> x.tight());
        refused("28 NONE: it has not come", quarrel(1), NONE, x -> x.tight());
    }

    // ---- promises 29 to 33

    /** What z must be for the next draw to make it so. */
    private static int ahead(int z) {
        int inverse = 1103515245;
        for (int i = 0; i < 5; i++) {
            inverse *= 2 - 1103515245 * inverse;
        }
        return (z - 12345) * inverse;
    }

    private static Scene drawing(int letters, int z) {
        return x -> {
            for (int i = 0; i < letters; i++) {
                x.letter(LETTER, 0, 1, 5, 5);
            }
            x.seed(ahead(z));
        };
    }

    private static void loses() {
        outside("29 n 1 to 20", BoundsTest::busy, 1, 20, (x, v) -> x.loses(v));
        for (int n : new int[] {1, 20}) {
            FarPost x = made(BoundsTest::busy);
            int z = -1234567;
            int struck = 2;
            for (int i = 0; i < n; i++) {
                z = z * 1103515245 + 12345;
                struck |= (1 << (z >>> 8) % 16) & 31;
            }
            due("29 n " + n, x.loses(n), Integer.bitCount(struck));
            due("29 n " + n + ", STRUCK", x.now(3), struck);
            due("29 n " + n + ", z", x.count(6), z);
        }
        for (int rest = 0; rest < 16; rest++) {
            for (int z : new int[] {rest << 8, rest << 8 | 255, 0xfffff000 | rest << 8, 1 << 31 | rest << 8}) {
                lost("29 of 8, rest " + rest + ", z " + z, made(drawing(8, z)), z, rest < 8 ? 1 << rest : 0);
                lost("29 of 3, rest " + rest + ", z " + z, made(drawing(3, z)), z, rest < 3 ? 1 << rest : 0);
                lost("29 of none, rest " + rest + ", z " + z, made(drawing(0, z)), z, 0);
            }
        }
        FarPost x = made(drawing(8, 7 << 8));
        x.loses(1);
        x.seed(ahead(7 << 8));
        due("29 one that is STRUCK stays so", x.loses(1), 1);
    }

    private static void lost(String sentence, FarPost x, int z, int struck) {
        due(sentence, x.loses(1), Integer.bitCount(struck));
        due(sentence + ", STRUCK", x.now(3), struck);
        due(sentence + ", z", x.count(6), z);
    }

    private static void odds() {
        askRange("30 n 0 to 14", BoundsTest::busy, 0, 14, (x, v) -> x.odds(v, 0));
        askRange("30 what 0, 1", BoundsTest::busy, 0, 1, (x, v) -> x.odds(3, v));
        // By how many count: above and below the line of one draw.
        long[][] tables = {{1, 1}, {15, 16}, {7, 8}, {13, 16}, {3, 4}, {11, 16}, {5, 8}, {9, 16}, {1, 2}};
        for (int counting = 0; counting < 9; counting++) {
            FarPost x = new FarPost();
            for (int i = 0; i < 8; i++) {
                x.letter(FORGED, 0, 1, 5, i < counting ? 0 : 1);
            }
            for (int what = 0; what < 2; what++) {
                long told = 1;
                for (int n = 0; n <= 14; n++) {
                    due("30 " + counting + " COUNT, n " + n + ", what " + what, x.odds(n, what), told);
                    told *= tables[counting][what];
                }
            }
        }
    }

    private static void seed() {
        for (int z : new int[] {0, -1, BIG, SMALL, BEYOND, SIZE, BEYOND + 1, SIZE - 1}) {
            FarPost x = new FarPost();
            due("31 1 at first", x.seed(z), 1);
            due("46 z " + z, x.count(6), z);
            due("31 z " + z, x.seed(5), z);
            due("47 that is no finding", x.status(-1), 0);
        }
    }

    /** A tape of so many bytes. */
    private static Scene tape(int n) {
        return x -> {
            busy(x);
            x.wipe();
            feedAll(x, "slip 1;frost 2;".repeat(8).substring(0, n));
        };
    }

    private static void feedAndWipe() {
        outside("32 n 1 to 4", BoundsTest::busy, 1, 4, (x, v) -> x.feed(0x20202020, v));
        for (int n = 1; n <= 4; n++) {
            FarPost x = made(tape(120 - n));
            due("32 at most 120 bytes, n " + n, x.feed(0x20202020, n), 120);
            int v = n;
            refused("32 FULL, n " + n, tape(121 - n), FULL, y -> y.feed(0x20202020, v));
            refused("32 FULL at 120, n " + n, tape(120), FULL, y -> y.feed(0x20202020, v));
        }
        refused("32 BEYOND: n, ahead of FULL", tape(120), BEYOND, x -> x.feed(0, 5));
        refused("32 BEYOND: n 0, where it is FULL", tape(120), BEYOND, x -> x.feed(0, 0));
        int[] numbers = {'9', '1' << 8 | '9', ' ' << 16 | '1' << 8 | '9', '-' << 24 | ' ' << 16 | '1' << 8 | '9'};
        int[] days = {9, 19, 19, -19};
        for (int n = 1; n <= 4; n++) {
            FarPost x = new FarPost();
            feedAll(x, "letter 0 1 days ");
            due("32 n " + n + ": how many it has", x.feed(numbers[n - 1] | (n < 4 ? 0x41414141 << 8 * n : 0), n), 16 + n);
            due("32 n " + n + ": it is read", x.text(), 1);
            due("32 n " + n + ": the highest first", x.of(0, 3), days[n - 1]);
        }
        FarPost x = made(tape(120));
        due("33 how many it had", x.wipe(), 120);
        due("33 empty", x.wipe(), 0);
        due("33 no FULL any more", x.feed(0, 4), 4);
    }

    // ---- promise 34

    /** A text of which a token can't stand at a place: nothing changes but that the tape is empty. */
    private static void fault(String sentence, Scene scene, String text, int place) {
        FarPost x = made(scene);
        FarPost twin = made(scene);
        x.wipe();
        twin.wipe();
        feedAll(x, text);
        List<Long> told = statuses(x);
        due("34 " + sentence + ": '" + text + "'", x.text(), -1 - place);
        same("34 '" + text + "' is no finding", statuses(x), told);
        same("34 '" + text + "' changes nothing", look(x), look(twin));
    }

    private static void reads(String sentence, String text, int items) {
        FarPost x = read(text);
        due("34 " + sentence + ": '" + text + "'", x.count(5), 0);
        x = new FarPost();
        feedAll(x, text);
        due("34 " + sentence + ": '" + text + "'", x.text(), items);
        due("34 no finding: '" + text + "'", x.status(-1), 0);
    }

    private static FarPost read(String text) {
        FarPost x = new FarPost();
        feedAll(x, text);
        x.text();
        return x;
    }

    private static void texts() {
        for (int kind = 0; kind < 7; kind++) {
            FarPost x = read(NAMES[kind] + " 7 0 days - 99 mark 999 struck");
            int[] parts = {kind, 7, 0, -99, 999, 1};
            FarPost y = read(NAMES[kind] + " 0 7 days 0");
            int[] few = {kind, 0, 7, 0, 0, 0};
            for (int what = 0; what < 6; what++) {
                due("34 all of a " + NAMES[kind] + ", " + what, x.of(0, what), parts[what]);
                due("34 DAY 0 without mark, a " + NAMES[kind] + ", " + what, y.of(0, what), few[what]);
            }
        }
        due("34 mark alone", read("card 1 2 days 3 mark 4").of(0, 4), 4);
        due("34 struck alone", read("card 1 2 days 3 struck").of(0, 5), 1);
        due("34 item by item", read("slip 3;slip 9").now(4), 9);
        due("34 frost 9", read("frost 9;slip 0").now(5), 9);
        reads("at most 120 bytes", "slip 1;frost 2;".repeat(7) + "slip 3;frost  4", 16);
        reads("items", "slip 1;frost 2;late 0 1 days 1", 3);
        fault("slip stays where a later one is at fault", BoundsTest::busy, "slip 9;frost 9;card 6 7 days 1;card 7", 37);
    }

    private static void textTokens() {
        Scene scene = BoundsTest::busy;
        reads("blanks may stand between, or not", "  card  0  1  days-5mark7struck  ;  slip4;frost 5 ", 3);
        reads("a blank behind", "slip 4 ", 1);
        fault("letters a to z: z", scene, "slipz 4", 0);
        fault("letters a to z: a", scene, "aslip 4", 0);
        fault("letters a to z: behind z", scene, "slip{4", 4);
        fault("letters a to z: ahead of a", scene, "slip`4", 4);
        fault("letters a to z: no others", scene, "Slip 4", 0);
        fault("letters a to z: no others behind", scene, "slip 4;cArd 1 2 days 3", 7);
        fault("digits: 0", scene, "slip 40", 5);
        fault("digits: 9", scene, "slip 49", 5);
        fault("digits: ahead of 0", scene, "slip 4/", 6);
        fault("digits: behind 9", scene, "slip 4:", 6);
        fault("SIGNS one each", scene, "slip 4;;slip 5", 7);
        fault("SIGNS one each: -", scene, "card 1 2 days --3", 15);
        fault("SIGNS: ahead of ;", scene, "slip 4:slip 5", 6);
        fault("SIGNS: behind ;", scene, "slip 4<slip 5", 6);
        fault("SIGNS: ahead of -", scene, "card 1 2 days ,3", 14);
        fault("SIGNS: behind -", scene, "card 1 2 days .3", 14);
        fault("a byte that begins no TOKEN: 0", scene, "slip" + (char) 0 + "4", 4);
        fault("a byte that begins no TOKEN: 31", scene, "slip" + (char) 31 + "4", 4);
        fault("a byte that begins no TOKEN: 33", scene, "slip" + (char) 33 + "4", 4);
        fault("a byte that begins no TOKEN: 128", scene, "slip 4" + (char) 128, 6);
        fault("a byte that begins no TOKEN: 160", scene, "slip" + (char) 160 + "4", 4);
        fault("a byte that begins no TOKEN: 255", scene, "slip 4" + (char) 255, 6);
        fault("WORDS as long as can be", scene, "slipslip 4", 0);
        fault("WORDS as long as can be: shorter", scene, "sli 4", 0);
        fault("WORDS aren't cut by blanks", scene, "sl ip 4", 0);
        fault("another WORD: days", scene, "card 1 2 day 3", 9);
        fault("another WORD: mark", scene, "card 1 2 days 3 marks 4", 16);
        fault("another WORD: struck", scene, "card 1 2 days 3 stuck", 16);
        fault("another WORD: of an ITEM", scene, "struck", 0);
        misspelt();
        fault("mark ahead of struck", scene, "card 1 2 days 3 struck mark 4", 23);
        fault("mark once", scene, "card 1 2 days 3 mark 4 mark 5", 23);
        fault("struck once", scene, "card 1 2 days 3 struck struck", 23);
        fault("- once", scene, "card 1 2 days - - 3", 16);
        fault("no - ahead of a TOWN", scene, "card -1 2 days 3", 5);
        fault("no - of mark", scene, "card 1 2 days 3 mark -4", 21);
        fault("no - of slip", scene, "slip -1", 5);
        fault("a NUMBER for a WORD", scene, "card 1 2 3", 9);
        fault("a NUMBER for an ITEM", scene, "4", 0);
        fault("a WORD for a NUMBER", scene, "card 1 days 3", 7);
        fault("no ; between", scene, "slip 4 slip 5", 7);
        fault("; first", scene, "; slip 4", 0);
    }

    /** Each letter of each WORD counts. */
    private static void misspelt() {
        for (String name : NAMES) {
            misspelt(name, "", " 1 2 days 3");
        }
        misspelt("slip", "", " 4");
        misspelt("frost", "slip 4;", " 4");
        misspelt("days", "card 1 2 ", " 3");
        misspelt("mark", "card 1 2 days 3 ", " 4");
        misspelt("struck", "card 1 2 days 3 ", "");
    }

    private static void misspelt(String word, String ahead, String behind) {
        for (int i = 0; i < word.length(); i++) {
            String other = word.substring(0, i) + "q" + word.substring(i + 1);
            fault("another WORD", BoundsTest::busy, ahead + other + behind, ahead.length());
        }
    }

    private static void textNumbers() {
        Scene scene = BoundsTest::busy;
        due("34 FROM 0", read("card 0 1 days 3").of(0, 1), 0);
        due("34 FROM 7", read("card 7 1 days 3").of(0, 1), 7);
        due("34 TO 0", read("card 1 0 days 3").of(0, 2), 0);
        due("34 TO 7", read("card 1 7 days 3").of(0, 2), 7);
        fault("FROM 8", scene, "card 8 1 days 3", 5);
        fault("TO 8", scene, "card 1 8 days 3", 7);
        fault("FROM and TO unlike", scene, "card 7 7 days 3", 7);
        due("34 days 0", read("card 0 1 days 0").count(1), 1);
        due("34 days 99", read("card 0 1 days 99").of(0, 3), 99);
        due("34 days - 0", read("card 0 1 days - 0").of(0, 3), 0);
        due("34 days - 99", read("card 0 1 days -99").of(0, 3), -99);
        fault("days 100", scene, "card 0 1 days 100", 14);
        fault("days - 100", scene, "card 0 1 days - 100", 16);
        due("34 mark 0", read("card 0 1 days 3 mark 0").count(1), 1);
        due("34 mark 999", read("card 0 1 days 3 mark 999").of(0, 4), 999);
        fault("mark 1000", scene, "card 0 1 days 3 mark 1000", 21);
        fault("a NUMBER that wraps around", scene, "card 0 1 days 3 mark 4294967296", 21);
        fault("a NUMBER that wraps around twice", scene, "slip 18446744073709551617", 5);
        due("34 slip 0", read("slip 5;slip 0").now(4), 0);
        due("34 slip 9", read("slip 9").now(4), 9);
        fault("slip 10", scene, "slip 10", 5);
        due("34 frost 0", read("frost 5;frost 0").now(5), 0);
        due("34 frost 9", read("frost 9").now(5), 9);
        fault("frost 10", scene, "frost 10", 6);
    }

    /** An item cut behind each of its tokens: it ends too early, or is one. */
    private static void textEnds() {
        String[] tokens = {"letter", "0", "1", "days", "-", "5", "mark", "7", "struck"};
        String text = "";
        for (int n = 0; n <= tokens.length; n++) {
            text += n == 0 ? "" : (n == 1 ? "" : " ") + tokens[n - 1];
            if (n == 6 || n >= 8) {
                reads("an ITEM", text, 1);
                reads("an ITEM and a blank", text + " ", 1);
                reads("an ITEM and another one", text + ";" + text, 2);
            } else {
                fault("it ends too early", BoundsTest::busy, text, text.length());
                fault("it ends too early, behind blanks", BoundsTest::busy, text + "  ", text.length() + 2);
                fault("an ITEM, and one that ends too early", BoundsTest::busy, "slip 1;" + text, text.length() + 7);
            }
        }
        fault("it ends too early: slip", BoundsTest::busy, "slip", 4);
        fault("it ends too early: frost", BoundsTest::busy, "frost ", 6);
        fault("; at the end", BoundsTest::busy, "slip 1;", 7);
        asked("34 an empty tape: its fault is 0", BoundsTest::chain, -1, x -> x.text());
    }

    private static void textNinth() {
        String one = "card 6 7 days 1";
        fault("the WORD of a 9th LETTER: its own", BoundsTest::full, one, 0);
        fault("the WORD of a 9th LETTER, whatever comes", BoundsTest::full, "slip 1; late", 8);
        fault("the WORD of a 9th LETTER, behind others", BoundsTest::busy, one + ";" + one + ";" + one + ";" + one, 48);
        fault("an earlier fault", BoundsTest::full, "slip 10;" + one, 5);
        FarPost x = made(BoundsTest::busy);
        x.wipe();
        feedAll(x, one + ";" + one + ";" + one);
        due("34 the 8th LETTER", x.text(), 3);
        due("34 there are 8", x.count(1), 8);
        feedAll(x, "slip 7;frost 8");
        due("34 laws where it is full", x.text(), 2);
        due("34 slip", x.now(4), 7);
        due("34 frost", x.now(5), 8);
    }

    // ---- promises 35 to 42

    private static void hold() {
        outside("35 SPOTS 0 to 9", BoundsTest::busy, 0, 9, (x, v) -> x.hold(v, 2));
        outside("35 a LETTER, or nothing", BoundsTest::busy, -1, 4, (x, v) -> x.hold(3, v));
        for (int spot : new int[] {0, 9}) {
            for (int letter : new int[] {0, 4}) {
                FarPost x = made(BoundsTest::busy);
                due("35 SPOT " + spot + ", LETTER " + letter, x.hold(spot, letter), 1);
                due("36 SPOT " + spot + ", LETTER " + letter, x.as(spot, LETTER), letter);
                due("46 SPOTS that hold something", x.count(7), 2);
                due("35 SPOT " + spot + ", nothing", x.hold(spot, -1), 1);
                due("36 SPOT " + spot + ", nothing", x.as(spot, LETTER), MISSING);
                due("46 SPOTS that hold something, one less", x.count(7), 1);
                due("35 SPOT " + spot + ", nothing twice", x.hold(spot, -1), 1);
            }
        }
        FarPost y = new FarPost();
        due("35 nothing, where there are no LETTERS", y.hold(0, -1), 1);
        refused("35 LETTER 0, where there are none", BoundsTest::blank, BEYOND, x -> x.hold(0, 0));
    }

    private static void as() {
        outside("36 SPOTS 0 to 9", BoundsTest::busy, 0, 9, (x, v) -> x.as(v, LETTER));
        outside("36 a kind 0 to 6", BoundsTest::busy, 0, 6, (x, v) -> x.as(0, v));
        asked("36 SPOT 0", BoundsTest::busy, 0, x -> x.as(0, LETTER));
        asked("36 SPOT 9", BoundsTest::busy, 4, x -> x.as(9, CARD));
        refused("36 MISSING: it holds nothing", BoundsTest::busy, MISSING, x -> x.as(1, LETTER));
        refused("36 BEYOND ahead of MISSING", BoundsTest::busy, BEYOND, x -> x.as(1, 7));
        refused("36 MISSING ahead of KIND", BoundsTest::busy, MISSING, x -> x.as(1, LATE));
        int[][] under = {{LETTER}, {HASTY, LETTER}, {SEALED, LETTER}, {FORGED, SEALED, LETTER},
            {COPIED, FORGED, SEALED, LETTER}, {CARD, LETTER}, {LATE, HASTY, LETTER}};
        for (int kind = 0; kind < 7; kind++) {
            int of = kind;
            Scene scene = x -> {
                busy(x);
                x.change(3, 0, of);
                x.hold(5, 3);
            };
            for (int asKind = 0; asKind < 7; asKind++) {
                int k = asKind;
                boolean is = false;
                for (int u : under[kind]) {
                    is |= u == asKind;
                }
                String sentence = "36 a " + NAMES[kind] + " as a " + NAMES[asKind];
                if (is) {
                    asked(sentence, scene, 3, x -> x.as(5, k));
                } else {
                    refused(sentence, scene, KIND, x -> x.as(5, k));
                }
            }
        }
    }

    private static void sheet() {
        outside("37 SHEETS 0 to 3", BoundsTest::busy, 0, 3, (x, v) -> x.sheet(v, 8, 2));
        for (int bits : new int[] {-8, -1, 1, 7, 9, 15, 17, 24, 31, 33, 64, BIG, SMALL}) {
            refused("37 other bits, " + bits, BoundsTest::busy, BEYOND, x -> x.sheet(0, bits, 2));
        }
        for (int bits : new int[] {0, 8, 16, 32}) {
            for (int s = 0; s < 4; s++) {
                sheetOf(s, bits);
            }
            for (int n : new int[] {-1, SMALL}) {
                refused("37 SIZE: n is below 0, bits " + bits, BoundsTest::busy, SIZE, x -> x.sheet(0, bits, n));
            }
            for (int n : new int[] {41, BIG}) {
                refused("37 BEYOND: n is above 40, bits " + bits, BoundsTest::busy, BEYOND, x -> x.sheet(0, bits, n));
            }
        }
        refused("37 BEYOND, no such sheet, ahead of SIZE", BoundsTest::busy, BEYOND, x -> x.sheet(4, 8, -1));
        refused("37 BEYOND, other bits, ahead of SIZE", BoundsTest::busy, BEYOND, x -> x.sheet(0, 9, -1));
    }

    private static void sheetOf(int s, int bits) {
        String name = "37 sheet " + s + ", bits " + bits;
        for (int n : new int[] {0, 1, 40}) {
            FarPost x = made(BoundsTest::busy);
            due(name + ", n " + n, x.sheet(s, bits, n), bits == 0 ? 0 : n);
            due(name + ", number " + n, x.write(s, n, 1), bits == 0 ? MISSING : BEYOND);
            if (n > 0) {
                due(name + ", the last number", x.write(s, n - 1, 0), bits == 0 ? MISSING : 1);
            }
            due(name + ", loaded", x.load(s), bits == 0 ? MISSING : Math.min(n, 5));
            due(name + ", all 0", x.of(0, 3), bits == 0 || n == 0 ? 5 : 0);
        }
    }

    private static void write() {
        outside("38 no such sheet", BoundsTest::busy, 0, 3, (x, v) -> x.write(v, 0, 5));
        outside("38 no such number", BoundsTest::busy, 0, 39, (x, v) -> x.write(0, v, 5));
        outside("38 no such number of 3", BoundsTest::busy, 0, 2, (x, v) -> x.write(1, v, 5));
        refused("38 no number of 0", BoundsTest::busy, BEYOND, x -> x.write(2, 0, 5));
        refused("38 MISSING", BoundsTest::busy, MISSING, x -> x.write(3, 0, 5));
        refused("38 MISSING ahead of BEYOND: no such number", BoundsTest::busy, MISSING, x -> x.write(3, 40, 5));
        FarPost x = made(BoundsTest::busy);
        due("38 number 0", x.write(0, 0, 1), 1);
        due("38 number 39", x.write(0, 39, 2), 1);
        x.copy(0, 39, 0, 1, 1);
        x.load(0);
        due("38 number 0 is so", x.of(0, 3), 1);
        due("38 number 39 is so", x.of(1, 3), 2);
        int[][] lowest = {{8, 127, 127}, {8, 128, -128}, {8, 255, -1}, {8, 256, 0}, {8, -128, -128}, {8, -129, 127},
            {8, BIG, -1}, {8, SMALL, 0}, {16, 32767, 32767}, {16, 32768, -32768}, {16, 65535, -1}, {16, 65536, 0},
            {16, -32769, 32767}, {16, 255, 255}, {16, SMALL, 0}, {32, 65535, 65535}, {32, BIG, BIG}, {32, SMALL, SMALL},
            {32, 255, 255}};
        for (int[] l : lowest) {
            FarPost y = new FarPost();
            y.letter(FORGED, 0, 1, 0, 0);
            fill(y, 0, l[0], l[1], l[2], l[2]);
            due("38 " + l[1] + " in " + l[0] + " bits is told as " + l[2], y.judge(0), 0);
            y.write(0, 1, l[2] ^ 1);
            due("38 " + l[1] + " in " + l[0] + " bits isn't told as another one", y.judge(0), 1);
        }
        signs();
    }

    /** With their sign: places of one sign or another are far apart, or one lies below the other. */
    private static void signs() {
        FarPost x = new FarPost();
        x.letter(FORGED, 0, 1, -99, 0);
        fill(x, 0, 8, -1, 98);
        due("38 255 of 8 bits is -1: 98 is 99 below it", x.judge(0), 0);
        fill(x, 0, 8, 255, 98);
        due("38 so it is as 255", x.judge(0), 0);
        fill(x, 0, 16, 65535, 98);
        due("38 of 16 bits 65535 is", x.judge(0), 0);
        fill(x, 0, 16, 255, 98);
        due("38 of 16 bits 255 isn't", x.judge(0), 1);
        fill(x, 0, 16, 32768, -32767 + 98);
        due("38 32768 of 16 bits is -32768", x.judge(0), 0);
        fill(x, 0, 32, 65535, 98);
        due("38 of 32 bits 65535 isn't -1", x.judge(0), STATE);
    }

    private static void copy() {
        Scene scene = x -> {
            busy(x);
            fill(x, 1, 16, 1, 2, 3, 4, 5);
            fill(x, 2, 16, 11, 12, 13);
        };
        outside("39 no such sheet", scene, 0, 3, (x, v) -> x.copy(v, 0, 1, 0, 1));
        outside("39 no such sheet, the other", scene, 0, 3, (x, v) -> x.copy(1, 0, v, 0, 1));
        refused("39 MISSING: the first", scene, MISSING, x -> x.copy(3, 0, 1, 0, 1));
        refused("39 MISSING: the other", scene, MISSING, x -> x.copy(1, 0, 3, 0, 1));
        refused("39 KIND", scene, KIND, x -> x.copy(0, 0, 1, 0, 1));
        refused("39 KIND the other way, also of none", scene, KIND, x -> x.copy(1, 0, 0, 0, 0));
        refused("39 BEYOND, no such sheet, ahead of MISSING", scene, BEYOND, x -> x.copy(3, 0, 4, 0, 1));
        refused("39 BEYOND, no such sheet, ahead of MISSING, too", scene, BEYOND, x -> x.copy(-1, 0, 3, 0, 1));
        refused("39 MISSING ahead of KIND", scene, MISSING, x -> x.copy(0, 0, 3, 0, 1));
        refused("39 MISSING ahead of BEYOND", scene, MISSING, x -> x.copy(1, -1, 3, 0, 1));
        refused("39 KIND ahead of BEYOND", scene, KIND, x -> x.copy(0, -1, 1, 0, 1));
        refused("39 the first has not so many", scene, BEYOND, x -> x.copy(1, 3, 2, 0, 3));
        refused("39 the other has not so many", scene, BEYOND, x -> x.copy(1, 0, 2, 1, 3));
        refused("39 neither has", scene, BEYOND, x -> x.copy(1, 0, 2, 0, 6));
        refused("39 from is below 0", scene, BEYOND, x -> x.copy(1, -1, 2, 0, 2));
        refused("39 to is below 0", scene, BEYOND, x -> x.copy(1, 0, 2, -1, 2));
        refused("39 n is below 0", scene, BEYOND, x -> x.copy(1, 1, 2, 1, -1));
        refused("39 from behind the end", scene, BEYOND, x -> x.copy(1, 6, 2, 0, 0));
        refused("39 to behind the end", scene, BEYOND, x -> x.copy(1, 0, 2, 4, 0));
        int[][] far = {{BIG, 0, 1}, {0, BIG, 1}, {0, 0, BIG}, {SMALL, 0, 1}, {0, SMALL, 1}, {0, 0, SMALL}, {1, 1, BIG},
            {BIG, BIG, BIG}, {BIG, 0, SMALL}};
        for (int[] f : far) {
            refused("39 far", scene, BEYOND, x -> x.copy(1, f[0], 2, f[1], f[2]));
        }
        asked("39 none, from the end to the end", scene, 0, x -> x.copy(1, 5, 2, 3, 0));
        copied("39 all that the other one has", scene, 2, 0, 3, 3, 4, 5);
        copied("39 the last to the last", scene, 4, 2, 1, 11, 12, 5);
        copied("39 the first to the first", scene, 0, 0, 1, 1, 12, 13);
        FarPost x = made(scene);
        due("39 on one sheet, up", x.copy(1, 0, 1, 1, 4), 4);
        x.load(1);
        due("39 as they all were, up", x.count(4), 1 + 1 + 2 + 3 + 4);
        due("39 on one sheet, down", x.copy(1, 1, 1, 0, 4), 4);
        x.load(1);
        due("39 as they all were, down", x.count(4), 1 + 2 + 3 + 4 + 4);
    }

    private static void copied(String sentence, Scene scene, int from, int to, int n, int... want) {
        FarPost x = made(scene);
        due(sentence, x.copy(1, from, 2, to, n), n);
        x.load(2);
        for (int i = 0; i < want.length; i++) {
            due(sentence + ", number " + i, x.of(i, 3), want[i]);
        }
    }

    private static void load() {
        outside("40 no such sheet", BoundsTest::busy, 0, 3, (x, v) -> x.load(v));
        refused("40 MISSING", BoundsTest::busy, MISSING, x -> x.load(3));
        asked("40 no numbers", BoundsTest::busy, 0, x -> x.load(2));
        int[][] rows = {{-99, 99, -100, 1}, {-99, 99, 100, 1}, {-100}, {100}, {1, 2, 3, 4, 5, 6}, {1, 2, 3, 4}};
        int[] came = {2, 2, 0, 0, 5, 4};
        int[] before = {5, -6, 9, 8, -3};
        for (int r = 0; r < rows.length; r++) {
            FarPost x = made(BoundsTest::busy);
            fill(x, 3, 16, rows[r]);
            due("40 how many came, row " + r, x.load(3), came[r]);
            for (int i = 0; i < 5; i++) {
                due("40 row " + r + ", LETTER " + i, x.of(i, 3), i < came[r] ? rows[r][i] : before[i]);
            }
            due("40 LETTERS stay as many, row " + r, x.count(1), 5);
        }
        FarPost x = made(BoundsTest::full);
        x.sheet(3, 32, 40);
        due("40 8 of 40", x.load(3), 8);
        due("40 no LETTER for any", made(y -> y.sheet(0, 8, 40)).load(0), 0);
    }

    private static Scene places(int bits, int... numbers) {
        return x -> {
            busy(x);
            fill(x, 3, bits, numbers);
        };
    }

    private static void judge() {
        outside("41 no such sheet", BoundsTest::busy, 0, 3, (x, v) -> x.judge(v));
        refused("41 MISSING", BoundsTest::busy, MISSING, x -> x.judge(3));
        asked("41 no numbers", BoundsTest::busy, 0, x -> x.judge(2));
        asked("41 8 numbers", places(8, 0, 0, 0, 0, 0, 0, 0, 0), 13, x -> x.judge(3));
        refused("41 STATE: more than 8 numbers", places(8, 0, 0, 0, 0, 0, 0, 0, 0, 0), STATE, x -> x.judge(3));
        refused("41 STATE: 40 numbers", BoundsTest::busy, STATE, x -> x.judge(0));
        apartOn("41", (x, v) -> x.judge(3));
        // The letter from 0 to 1 is of 3 to 7, the forged one from 2 to 3 of -9, the copied one from 3 to 4 of -9 to -7.
        asked("41 one TOWN is told", places(16, 5), 0, x -> x.judge(3));
        asked("41 both are told", places(16, 5, 5), 1, x -> x.judge(3));
        asked("41 LEAST", places(16, 5, 8), 0, x -> x.judge(3));
        asked("41 less", places(16, 5, 7), 1, x -> x.judge(3));
        asked("41 MOST", places(16, 5, 12), 0, x -> x.judge(3));
        asked("41 more", places(16, 5, 13), 1, x -> x.judge(3));
        asked("41 TO isn't told", places(16, 5, 12, 0), 0, x -> x.judge(3));
        asked("41 TO is told", places(16, 5, 12, 0, 0), 4, x -> x.judge(3));
        asked("41 another one, too", places(16, 5, 12, 0, -9, 0), 8, x -> x.judge(3));
        asked("41 STRUCK or to come: all hold", places(16, 5, 12, 99, 90, 82, 500), 0, x -> x.judge(3));
        asked("41 FROM isn't told", x -> {
            busy(x);
            x.letter(FORGED, 3, 0, 50, 0);
            fill(x, 3, 16, 0, 5, 0);
        }, 0, x -> x.judge(3));
        asked("41 no MAP FITS: no matter", x -> {
            stuck(x);
            fill(x, 3, 16, 5, 8);
        }, 32, x -> x.judge(3));
    }

    /** STATE: two are more than 999 apart, whichever stands first. */
    private static void apartOn(String promise, NumberCall call) {
        int[][] near = {{0, 999}, {999, 0}, {-500, 0, 499}, {BIG, BIG - 999}, {SMALL, SMALL + 999}};
        int[][] far = {{0, 1000}, {1000, 0}, {-500, 0, 500}, {0, 0, 0, 0, 0, 0, 0, 1000}, {0, 0, 0, 0, 0, 0, -1000, 0},
            {BIG, BIG - 1000}, {SMALL, BIG}, {BIG, SMALL}, {SMALL, 0}, {0, SMALL}, {BIG, -1}, {-1, BIG}};
        for (int[] n : near) {
            long answer = call.on(made(places(32, n)), 0);
            due(promise + " 999 apart", answer < -1000000 ? answer : 0, 0);
        }
        for (int[] f : far) {
            refused(promise + " STATE: two are more than 999 apart", places(32, f), STATE, x -> call.on(x, 0));
        }
    }

    private static void maps() {
        outside("42 no such sheet", BoundsTest::busy, 0, 3, (x, v) -> x.maps(v));
        refused("42 MISSING", BoundsTest::busy, MISSING, x -> x.maps(3));
        asked("42 no numbers: a MAP FITS", BoundsTest::busy, 1, x -> x.maps(2));
        asked("42 no numbers: none FITS", BoundsTest::stuck, 0, x -> x.maps(2));
        asked("42 8 numbers", places(8, 0, 0, 0, 0, 0, 0, 0, 0), 0, x -> x.maps(3));
        refused("42 STATE: more than 8 numbers", places(8, 0, 0, 0, 0, 0, 0, 0, 0, 0), STATE, x -> x.maps(3));
        refused("42 STATE: 40 numbers", BoundsTest::busy, STATE, x -> x.maps(0));
        refused("42 STATE where none FITS", x -> {
            stuck(x);
            fill(x, 3, 16, 0, 1000);
        }, STATE, x -> x.maps(3));
        apartOn("42", (x, v) -> x.maps(3));
        asked("42 one number", places(32, BIG), 1, x -> x.maps(3));
        asked("42 LEAST", places(16, 5, 8), 1, x -> x.maps(3));
        asked("42 less", places(16, 5, 7), 0, x -> x.maps(3));
        asked("42 MOST", places(16, 5, 12), 1, x -> x.maps(3));
        asked("42 more", places(16, 5, 13), 0, x -> x.maps(3));
        asked("42 8 numbers of a MAP", places(16, 0, 3, 99, 90, 81, 500, 501, -498), 1, x -> x.maps(3));
        asked("42 8 numbers, the 5th too far", places(16, 0, 3, 99, 90, 80, 500, 501, -498), 0, x -> x.maps(3));
        asked("42 999 apart", places(16, 0, 3, 999, 990), 1, x -> x.maps(3));
        // Town 4 is at least 7 above town 3, and at most 999 above town 1.
        asked("42 TOWN 4 is 999 from TOWN 1", places(16, 0, 3, -980, -989), 1, x -> x.maps(3));
        asked("42 TOWN 4 would be 1000 from TOWN 1", places(16, 0, 3, -981, -990), 0, x -> x.maps(3));
        Scene hanging = x -> {
            x.letter(FORGED, 1, 2, -9, 0);
            fill(x, 3, 16, 0, 990);
        };
        asked("42 a TOWN that isn't told is 999 apart", hanging, 1, x -> x.maps(3));
        asked("42 it would be 1000 apart", x -> {
            hanging.set(x);
            x.write(3, 1, 991);
        }, 0, x -> x.maps(3));
    }

    // ---- promises 43 to 47

    private static void images() {
        refused("44 NONE: nothing is kept", BoundsTest::blank, NONE, x -> x.undo());
        asked("45 nothing was kept", BoundsTest::blank, 0, x -> x.tear());
        FarPost x = made(BoundsTest::full);
        due("44 DAY", x.undo(), 3);
        due("44 LETTERS of then", x.count(1), 3);
        due("44 none of later ones", x.of(3, 0), BEYOND);
        due("44 the SPOT of then", x.as(1, FORGED), 2);
        due("44 no SPOT of later", x.count(7), 1);
        due("44 STRUCK of then", x.now(3), 0);
        due("44 DAYS of then", x.of(2, 3), 7);
        due("44 SLIP of then", x.now(4), 1);
        due("44 FROST of then", x.now(5), 2);
        due("44 z of then", x.count(6), 99);
        due("44 THE TAPE stays", x.count(5), 120);
        due("44 SHEETS stay", x.load(1), 3);
        due("44 as they were", x.of(0, 3), 10);
        x.go(5);
        x.change(0, 1, 6);
        due("44 what was kept stays", x.undo(), 3);
        due("44 as it was", x.of(0, 1), 0);
        x.go(1);
        due("43 kept latest", x.image(), 1);
        x.go(1);
        due("44 the latest", x.undo(), 4);
        due("45 something was kept", x.tear(), 1);
        due("45 nothing is", x.tear(), 0);
        due("44 NONE behind tear", x.undo(), NONE);
        due("45 DAY stays", x.now(0), 4);
        FarPost y = made(BoundsTest::busy);
        List<Long> told = statuses(y);
        y.go(0);
        y.undo();
        told.set(0, told.get(0) + 1);
        told.set(1, told.get(1) + 1);
        same("47 undo() takes none back", statuses(y), told);
    }

    private static void count() {
        askRange("46 what 0 to 7", BoundsTest::busy, 0, 7, (x, v) -> x.count(v));
        int[] busy = {23, 5, 3, 1, 5 - 6 + 9 + 8 - 3, 22, -1234567, 2};
        int[] full = {23, 8, 5, 1, 5 - 6 + 9 + 8 - 3 + 4 + 3 + 2, 120, -1234567, 2};
        for (int what = 0; what < 8; what++) {
            int w = what;
            asked("46 what " + w, BoundsTest::busy, busy[w], x -> x.count(w));
            asked("46 what " + w + ", full", BoundsTest::full, full[w], x -> x.count(w));
        }
    }

    private static void status() {
        askRange("47 which -1 to 6", BoundsTest::busy, -1, 6, (x, v) -> x.status(v));
        FarPost x = new FarPost();
        due("47 another one", x.status(7), BEYOND);
        due("47 counted from then on", x.status(0), 1);
        due("47 in all, too", x.status(-1), 1);
        due("47 another one, below", x.status(-2), BEYOND);
        due("47 counted, too", x.status(0), 2);
    }
}
