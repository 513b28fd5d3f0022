/** Each promise of the document by itself: ordinary inputs, the edges that it names, and wrong inputs. */
public final class PromisesTest {
    private static final int BEYOND = -1000001;
    private static final int FULL = -1000002;
    private static final int KIND = -1000003;
    private static final int NONE = -1000004;
    private static final int STATE = -1000005;
    private static final int MISSING = -1000006;
    private static final int SIZE = -1000007;
    private static final int BIG = Integer.MAX_VALUE;
    private static final int SMALL = Integer.MIN_VALUE;

    private static final int LETTER = 0;
    private static final int HASTY = 1;
    private static final int SEALED = 2;
    private static final int FORGED = 3;
    private static final int COPIED = 4;
    private static final int CARD = 5;
    private static final int LATE = 6;

    private static int wrong = 0;

    private static void due(String what, long got, long want) {
        if (got != want) {
            wrong++;
            System.out.println("promise " + what + " answered " + got + ", due is " + want);
        }
    }

    private static void feedAll(FarPost x, String text) {
        for (int i = 0; i < text.length(); i++) {
            x.feed(text.charAt(i), 1);
        }
    }

    private static int read(FarPost x, String text) {
        feedAll(x, text);
        return x.text();
    }

    private static void fill(FarPost x, int s, int bits, int... numbers) {
        x.sheet(s, bits, numbers.length);
        for (int i = 0; i < numbers.length; i++) {
            x.write(s, i, numbers[i]);
        }
    }

    /** Forged letters come on their mark: these all count at once, and say what sealed ones would with other signs. */
    private static FarPost forged(int[]... letters) {
        FarPost x = new FarPost();
        for (int[] l : letters) {
            x.letter(FORGED, l[0], l[1], -l[2], 0);
        }
        return x;
    }

    private static int[] at(int from, int to, int below) {
        return new int[] {from, to, below};
    }

    public static void main(String[] args) {
        newObject();
        letter();
        ofParts();
        ofKinds();
        change();
        law();
        go();
        now();
        fits();
        span();
        sure();
        below();
        widestAndUnknown();
        can();
        when();
        ahead();
        known();
        agree();
        strikeAndStrikes();
        implied();
        suspects();
        dearest();
        merge();
        kinds();
        daysAndFewest();
        tight();
        loses();
        odds();
        seed();
        feedAndWipe();
        text();
        textFaults();
        textFull();
        hold();
        as();
        sheet();
        write();
        copy();
        load();
        judge();
        maps();
        images();
        count();
        status();
        System.out.println(wrong == 0 ? "all answers are as due" : wrong + " answers are not as due");
        if (wrong != 0) {
            System.exit(1);
        }
    }

    private static void newObject() {
        FarPost x = new FarPost();
        int[] counts = {0, 0, 0, 0, 0, 0, 1, 0};
        for (int i = 0; i < counts.length; i++) {
            due("1 count(" + i + ")", x.count(i), counts[i]);
        }
        for (int i = 0; i < 6; i++) {
            due("1 now(" + i + ")", x.now(i), 0);
        }
        for (int i = -1; i < 7; i++) {
            due("1 status(" + i + ")", x.status(i), 0);
        }
        due("1 nothing is kept", x.undo(), NONE);
        for (int i = 0; i < 10; i++) {
            due("1 spot " + i, x.as(i, LETTER), MISSING);
        }
        for (int i = 0; i < 4; i++) {
            due("1 sheet " + i, x.write(i, 0, 0), MISSING);
        }
        due("1 no letters", x.of(0, 0), BEYOND);
    }

    private static void letter() {
        FarPost x = new FarPost();
        int[][] bad = {{-1, 0, 1, 0, 0}, {7, 0, 1, 0, 0}, {0, -1, 1, 0, 0}, {0, 8, 1, 0, 0}, {0, 0, -1, 0, 0},
            {0, 0, 8, 0, 0}, {0, 3, 3, 0, 0}, {0, 0, 1, -100, 0}, {0, 0, 1, 100, 0}, {0, 0, 1, 0, -1},
            {0, 0, 1, 0, 1000}, {BIG, 0, 1, 0, 0}, {SMALL, 0, 1, 0, 0}, {0, BIG, 1, 0, 0}, {0, 0, SMALL, 0, 0},
            {0, 0, 1, SMALL, 0}, {0, 0, 1, BIG, 0}, {0, 0, 1, 0, BIG}, {0, 0, 1, 0, SMALL}};
        for (int[] b : bad) {
            due("2 a wrong letter", x.letter(b[0], b[1], b[2], b[3], b[4]), BEYOND);
        }
        due("2 none of them came", x.count(1), 0);
        due("2 first", x.letter(0, 0, 7, -99, 0), 0);
        due("2 second", x.letter(6, 7, 0, 99, 999), 1);
        for (int i = 2; i < 8; i++) {
            due("2 letter " + i, x.letter(i % 7, i - 1, i, i, i), i);
        }
        due("2 full", x.letter(0, 0, 1, 0, 0), FULL);
        due("2 beyond ahead of full", x.letter(0, 1, 1, 0, 0), BEYOND);
        due("2 letters", x.count(1), 8);
        int[] last = {0, 6, 7, 7, 7, 0};
        for (int i = 0; i < last.length; i++) {
            due("2 of(7, " + i + ")", x.of(7, i), last[i]);
        }
    }

    private static void ofParts() {
        FarPost x = new FarPost();
        x.letter(CARD, 6, 2, -41, 500);
        int[] parts = {CARD, 6, 2, -41, 500, 0};
        for (int i = 0; i < parts.length; i++) {
            due("3 of(0, " + i + ")", x.of(0, i), parts[i]);
        }
        due("3 doesn't count", x.of(0, 9), 0);
        due("3 what -1", x.of(0, -1), BEYOND);
        due("3 what 10", x.of(0, 10), BEYOND);
        due("3 letter 1", x.of(1, 0), BEYOND);
        due("3 letter -1", x.of(-1, 0), BEYOND);
        due("3 far", x.of(BIG, BIG), BEYOND);
        x.go(200);
        x.go(200);
        x.go(140);
        due("3 a day too early", x.of(0, 9), 0);
        x.go(1);
        due("3 counts on its day", x.of(0, 9), 1);
        x.change(0, 5, 1);
        due("3 struck", x.of(0, 5), 1);
        due("3 struck doesn't count", x.of(0, 9), 0);
    }

    private static void ofKinds() {
        FarPost x = new FarPost();
        x.law(0, 2);
        x.law(1, 3);
        int[][] rows = {{-9, -5, 20}, {-999, -5, 13}, {-7, -7, 21}, {7, 7, 10}, {6, 8, 12}, {-11, -3, 20}, {-999, 0, 23}};
        for (int kind = 0; kind < 7; kind++) {
            x.letter(kind, 0, 1, -7, 10);
            due("3 least of kind " + kind, x.of(kind, 6), rows[kind][0]);
            due("3 most of kind " + kind, x.of(kind, 7), rows[kind][1]);
            due("3 kind " + kind + " comes", x.of(kind, 8), rows[kind][2]);
        }
        x.change(1, 3, 99);
        due("3 half of 99", x.of(1, 8), 10 + 49);
        due("3 most of a hasty one", x.of(1, 7), 101);
    }

    private static void change() {
        FarPost x = new FarPost();
        x.letter(LETTER, 0, 1, 5, 9);
        int[] was = {LETTER, 0, 1, 5, 9, 0};
        int[] becomes = {LATE, 7, 2, -99, 999, 1};
        for (int i = 0; i < 6; i++) {
            due("4 what " + i + " was", x.change(0, i, becomes[i]), was[i]);
            due("4 what " + i + " is", x.of(0, i), becomes[i]);
        }
        int[][] bad = {{0, 0, -1}, {0, 0, 7}, {0, 1, -1}, {0, 1, 8}, {0, 1, 2}, {0, 2, 7}, {0, 2, 8}, {0, 2, -1},
            {0, 3, -100}, {0, 3, 100}, {0, 4, -1}, {0, 4, 1000}, {0, 5, -1}, {0, 5, 2}, {0, 6, 0}, {0, -1, 0},
            {1, 0, 0}, {-1, 0, 0}, {BIG, 0, 0}, {0, SMALL, 0}, {0, 3, SMALL}, {0, 5, BIG}};
        for (int[] b : bad) {
            due("4 change(" + b[0] + ", " + b[1] + ", " + b[2] + ")", x.change(b[0], b[1], b[2]), BEYOND);
        }
        for (int i = 0; i < 6; i++) {
            due("4 stays " + i, x.of(0, i), becomes[i]);
        }
        due("4 the same from", x.change(0, 1, 7), 7);
        due("4 the same to", x.change(0, 2, 2), 2);
        due("4 days to 99", x.change(0, 3, 99), -99);
        due("4 mark to 0", x.change(0, 4, 0), 999);
    }

    private static void law() {
        FarPost x = new FarPost();
        due("5 slip was", x.law(0, 9), 0);
        due("5 frost was", x.law(1, 4), 0);
        due("5 slip", x.now(4), 9);
        due("5 frost", x.now(5), 4);
        due("5 slip was 9", x.law(0, 0), 9);
        due("5 frost was 4", x.law(1, 9), 4);
        int[][] bad = {{-1, 0}, {2, 0}, {0, -1}, {0, 10}, {1, -1}, {1, 10}, {BIG, 0}, {0, SMALL}};
        for (int[] b : bad) {
            due("5 law(" + b[0] + ", " + b[1] + ")", x.law(b[0], b[1]), BEYOND);
        }
        due("5 slip stays", x.now(4), 0);
        due("5 frost stays", x.now(5), 9);
    }

    private static void go() {
        FarPost x = new FarPost();
        x.letter(LETTER, 0, 1, -4, 6);
        x.letter(HASTY, 0, 1, 5, 7);
        x.letter(SEALED, 0, 1, 0, 200);
        int[] bad = {0, -1, 201, BIG, SMALL};
        for (int b : bad) {
            due("6 go(" + b + ")", x.go(b), BEYOND);
        }
        due("6 day 8", x.go(8), 0);
        due("6 day 9", x.go(1), 2);
        due("6 day 10", x.go(1), 3);
        x.change(0, 5, 1);
        due("6 day 200", x.go(190), 2);
        due("6 day 201", x.go(1), 6);
        // Another office, so that none gets more calls than its 512.
        FarPost last = new FarPost();
        last.letter(FORGED, 0, 1, 0, 999);
        for (int i = 0; i < 499; i++) {
            last.go(200);
        }
        due("6 the day", last.now(0), 99800);
        due("6 over the end", last.go(200), STATE);
        due("6 beyond ahead of state", last.go(201), BEYOND);
        due("6 the last day", last.go(199), 1);
        due("6 behind the last day", last.go(1), STATE);
        due("6 it stays", last.now(0), 99999);
    }

    private static void now() {
        FarPost x = new FarPost();
        x.letter(LETTER, 0, 1, 3, 0);
        x.letter(FORGED, 1, 2, 3, 0);
        x.letter(FORGED, 2, 3, 3, 4);
        x.letter(FORGED, 3, 4, 3, 3);
        x.change(3, 5, 1);
        x.change(2, 5, 1);
        x.go(3);
        due("7 day", x.now(0), 3);
        due("7 count", x.now(1), 3);
        due("7 to come, struck or not", x.now(2), 4);
        due("7 struck", x.now(3), 12);
        x.law(1, 1);
        due("7 frost holds one back", x.now(1), 2);
        due("7 and it is to come", x.now(2), 5);
        due("7 slip", x.now(4), 0);
        due("7 frost", x.now(5), 1);
        due("7 what 6", x.now(6), BEYOND);
        due("7 what -1", x.now(-1), BEYOND);
        due("7 what big", x.now(BIG), BEYOND);
    }

    private static void fits() {
        FarPost x = forged(at(0, 1, 5), at(1, 2, 6), at(0, 2, 11));
        due("8 a round that closes", x.fits(), 1);
        x.change(2, 3, -12);
        due("8 one that doesn't", x.fits(), 0);
        x.change(1, 4, 1);
        due("8 not come yet", x.fits(), 1);
        x.change(1, 4, 0);
        x.change(0, 5, 1);
        due("8 struck", x.fits(), 1);
        FarPost y = forged();
        for (int i = 0; i < 7; i++) {
            y.letter(COPIED, i, i + 1, -99, 0);
        }
        y.go(2);
        due("8 seven times 98 to 100", y.fits(), 1);
        due("8 693 less 7", y.span(0, 7, 0), 686);
        due("8 and 7", y.span(0, 7, 1), 700);
    }

    private static void span() {
        FarPost x = new FarPost();
        x.law(0, 1);
        x.letter(LETTER, 0, 1, 5, 0);
        x.letter(CARD, 1, 2, 3, 0);
        x.letter(HASTY, 3, 2, -2, 0);
        due("9 before it comes", x.span(0, 1, 2), 1999);
        x.go(5);
        due("9 least", x.span(0, 1, 0), 4);
        due("9 most", x.span(0, 1, 1), 6);
        due("9 many", x.span(0, 1, 2), 3);
        due("9 the other way least", x.span(1, 0, 0), -6);
        due("9 the other way most", x.span(1, 0, 1), -4);
        due("9 by way of 1 least", x.span(0, 2, 0), 5);
        due("9 by way of 1 most", x.span(0, 2, 1), 11);
        due("9 by way of 1 many", x.span(0, 2, 2), 7);
        due("9 at most", x.span(3, 2, 1), -1);
        // Town 0 lies at least 5 above town 2, and 3 at most 999 below 0; 3 lies at least 6 below 0, and 7 at most 999 above 3.
        due("9 at least: no two are more than 999 apart", x.span(3, 2, 0), -994);
        due("9 of a free town", x.span(0, 7, 0), -993);
        due("9 of two free towns", x.span(6, 7, 0), -999);
        int[][] bad = {{0, 0, 0}, {-1, 0, 0}, {8, 0, 0}, {0, 8, 0}, {0, -1, 0}, {0, 1, 3}, {0, 1, -1}, {BIG, SMALL, 0}};
        for (int[] b : bad) {
            due("9 span(" + b[0] + ", " + b[1] + ", " + b[2] + ")", x.span(b[0], b[1], b[2]), BEYOND);
        }
        x.letter(FORGED, 0, 1, 5, 0);
        due("9 none fits", x.span(0, 1, 0), NONE);
        due("9 none fits, other towns", x.span(6, 7, 2), NONE);
        due("9 beyond ahead of none", x.span(1, 1, 0), BEYOND);
    }

    private static void sure() {
        FarPost x = forged(at(0, 1, 5), at(1, 2, 6));
        x.letter(COPIED, 2, 3, 0, 0);
        x.go(2);
        due("10 sure(0)", x.sure(0), 7);
        due("10 sure(2)", x.sure(2), 7);
        due("10 sure(3)", x.sure(3), 8);
        due("10 sure(7)", x.sure(7), 128);
        due("10 sure(8)", x.sure(8), BEYOND);
        due("10 sure(-1)", x.sure(-1), BEYOND);
        x.letter(FORGED, 0, 2, 0, 0);
        due("10 none fits", x.sure(0), NONE);
        due("10 beyond ahead of none", x.sure(BIG), BEYOND);
        FarPost y = new FarPost();
        y.letter(HASTY, 4, 5, 2, 0);
        y.letter(HASTY, 5, 4, -2, 0);
        y.go(1);
        due("10 two that meet", y.sure(5), 48);
    }

    private static void below() {
        FarPost x = new FarPost();
        x.letter(COPIED, 0, 1, -2, 0);
        x.letter(COPIED, 1, 2, -1, 0);
        x.letter(HASTY, 3, 0, -1, 0);
        x.go(2);
        due("11 below(0)", x.below(0), 14);
        due("11 below(1): 2 may be as far", x.below(1), 0);
        due("11 below(3): it may be below all", x.below(3), 0);
        due("11 below(2)", x.below(2), 0);
        due("11 below(8)", x.below(8), BEYOND);
        due("11 below(-1)", x.below(-1), BEYOND);
        x.letter(FORGED, 0, 1, 1, 0);
        due("11 none fits", x.below(0), NONE);
        due("11 beyond ahead of none", x.below(SMALL), BEYOND);
    }

    private static void widestAndUnknown() {
        FarPost x = new FarPost();
        due("12 of all alike the least pair", x.widest(), 1);
        due("13 28 pairs", x.unknown(), 28 * 1999);
        x.letter(FORGED, 0, 1, 0, 0);
        due("12 the next pair", x.widest(), 2);
        due("13 one is sure", x.unknown(), 27 * 1999 + 1);
        x.change(0, 3, -10);
        // Others are from 10 less 999 to 999 of town 0, of town 1 from -999 to 989: 1989 numbers for each of 12 pairs.
        due("12 free towns are the widest", x.widest(), 8 * 2 + 3);
        due("13 a town between", x.unknown(), 15 * 1999 + 12 * 1989 + 1);
        for (int i = 1; i < 7; i++) {
            x.letter(FORGED, i, i + 1, -10, 0);
        }
        due("12 all are sure", x.widest(), 1);
        due("13 all are sure", x.unknown(), 28);
        x.change(3, 0, COPIED);
        x.change(5, 0, COPIED);
        x.go(2);
        due("12 two towns that slip", x.widest(), 6);
        x.letter(FORGED, 0, 1, 9, 0);
        due("12 none fits", x.widest(), NONE);
        due("13 none fits", x.unknown(), NONE);
    }

    private static void can() {
        FarPost x = forged(at(0, 1, 5));
        x.letter(COPIED, 1, 2, -7, 0);
        x.go(2);
        due("14 5", x.can(0, 1, 5), 1);
        due("14 -5 the other way", x.can(1, 0, -5), 1);
        due("14 4", x.can(0, 1, 4), 0);
        due("14 6", x.can(0, 1, 6), 0);
        due("14 11", x.can(0, 2, 11), 1);
        due("14 13", x.can(0, 2, 13), 1);
        due("14 10", x.can(0, 2, 10), 0);
        due("14 14", x.can(0, 2, 14), 0);
        due("14 999", x.can(6, 7, 999), 1);
        due("14 -999", x.can(6, 7, -999), 1);
        int[][] bad = {{0, 0, 0}, {0, 8, 0}, {-1, 0, 0}, {0, 1, 1000}, {0, 1, -1000}, {0, 1, BIG}, {0, 1, SMALL}};
        for (int[] b : bad) {
            due("14 can(" + b[0] + ", " + b[1] + ", " + b[2] + ")", x.can(b[0], b[1], b[2]), BEYOND);
        }
        x.letter(FORGED, 0, 1, 5, 0);
        due("14 none fits", x.can(0, 1, 5), 0);
        due("14 none fits, other towns", x.can(6, 7, 0), 0);
    }

    private static void when() {
        FarPost x = new FarPost();
        due("15 never", x.when(), NONE);
        x.letter(FORGED, 0, 1, 5, 20);
        x.letter(FORGED, 0, 1, 6, 500);
        due("15 on the last day", x.when(), 500);
        x.change(1, 4, 501);
        due("15 too late", x.when(), NONE);
        due("15 nothing changes", x.now(0), 0);
        x.go(1);
        due("15 a day on", x.when(), 500);
        x.change(1, 4, 10);
        due("15 the later one of both", x.when(), 19);
        x.go(19);
        due("15 now", x.when(), 0);
        x.change(0, 5, 1);
        due("15 struck", x.when(), NONE);
        due("15 counted as findings", x.status(3), 3);
    }

    private static void ahead() {
        FarPost x = new FarPost();
        x.letter(FORGED, 0, 1, 5, 0);
        x.letter(LETTER, 0, 1, -5, 1);
        x.letter(FORGED, 0, 1, 5, 500);
        x.letter(FORGED, 0, 1, 5, 3);
        x.change(3, 5, 1);
        due("16 0", x.ahead(0), 1);
        due("16 5", x.ahead(5), 1);
        due("16 6", x.ahead(6), 3);
        due("16 499", x.ahead(499), 3);
        due("16 500", x.ahead(500), 7);
        due("16 nothing changes", x.now(1), 1);
        x.go(4);
        due("16 2 days on", x.ahead(2), 3);
        due("16 -1", x.ahead(-1), BEYOND);
        due("16 501", x.ahead(501), BEYOND);
        due("16 big", x.ahead(BIG), BEYOND);
    }

    private static void known() {
        FarPost x = new FarPost();
        x.letter(FORGED, 0, 1, 5, 100);
        x.letter(HASTY, 1, 2, 5, 198);
        x.letter(HASTY, 2, 1, -5, 300);
        x.letter(FORGED, 0, 1, 6, 400);
        due("17 known(0, 1)", x.known(0, 1), 100);
        due("17 known(1, 2)", x.known(1, 2), 302);
        due("17 known(2, 0)", x.known(2, 0), 302);
        due("17 known(0, 3)", x.known(0, 3), NONE);
        x.go(2);
        due("17 two days on", x.known(1, 0), 98);
        x.go(198);
        due("17 now", x.known(0, 1), 0);
        x.change(2, 4, 498);
        due("17 no map fits when the last comes", x.known(1, 2), NONE);
        x.go(200);
        due("17 no map fits any more", x.known(0, 1), NONE);
        int[][] bad = {{0, 0}, {0, 8}, {8, 0}, {-1, 0}, {0, -1}, {BIG, SMALL}};
        for (int[] b : bad) {
            due("17 known(" + b[0] + ", " + b[1] + ")", x.known(b[0], b[1]), BEYOND);
        }
        FarPost y = new FarPost();
        y.letter(FORGED, 0, 1, 5, 500);
        due("17 on the last day", y.known(0, 1), 500);
        y.change(0, 4, 501);
        due("17 too late", y.known(0, 1), NONE);
    }

    private static void agree() {
        FarPost x = forged(at(0, 1, 5), at(1, 2, 6), at(0, 2, 12));
        x.change(2, 4, 900);
        x.change(1, 5, 1);
        due("18 all", x.agree(7), 0);
        due("18 two", x.agree(3), 1);
        due("18 two others", x.agree(6), 1);
        due("18 none", x.agree(0), 1);
        due("18 beyond", x.agree(8), BEYOND);
        due("18 below 0", x.agree(-1), BEYOND);
        due("18 the lowest", x.agree(SMALL), BEYOND);
        due("18 far", x.agree(BIG), BEYOND);
        FarPost y = new FarPost();
        for (int i = 0; i < 8; i++) {
            y.letter(LETTER, 0, 1, 50, 999);
        }
        due("18 eight", y.agree(255), 1);
        due("18 a ninth", y.agree(256), BEYOND);
    }

    private static void strikeAndStrikes() {
        FarPost x = forged(at(0, 1, 5), at(0, 1, 5), at(0, 1, 6), at(2, 3, 1));
        due("19 the one that is alone", x.strike(), 4);
        due("20 one set", x.strikes(), 1);
        x.change(1, 5, 1);
        due("19 of two the least", x.strike(), 1);
        due("20 either", x.strikes(), 2);
        x.letter(FORGED, 2, 3, -2, 0);
        due("19 two rounds", x.strike(), 1 + 8);
        due("20 two by two", x.strikes(), 4);
        x.change(0, 4, 1);
        due("19 not come", x.strike(), 8);
        due("20 not come", x.strikes(), 2);
        FarPost y = forged(at(0, 1, 5), at(1, 2, 5), at(0, 2, 12));
        due("19 any of three", y.strike(), 1);
        due("20 any of three", y.strikes(), 3);
        y.change(2, 3, -10);
        due("19 a map fits", y.strike(), 0);
        due("20 a map fits", y.strikes(), 1);
        FarPost z = new FarPost();
        for (int i = 0; i < 8; i++) {
            z.letter(FORGED, 0, 1, i, 0);
        }
        due("19 all but one", z.strike(), 127);
        due("20 all but one", z.strikes(), 8);
    }

    private static void implied() {
        FarPost x = forged(at(0, 1, 5), at(1, 2, 6), at(0, 2, 11));
        x.letter(COPIED, 0, 2, -12, 0);
        x.letter(HASTY, 4, 5, 9, 0);
        x.go(5);
        due("21 three that imply each other, and a wide one", x.implied(), 15);
        x.change(2, 5, 1);
        due("21 without the round", x.implied(), 8);
        x.change(3, 3, -11);
        due("21 as wide as may be", x.implied(), 8);
        x.change(3, 3, -12);
        x.change(0, 0, COPIED);
        due("21 not implied by a wider one", x.implied(), 0);
        FarPost y = forged(at(0, 1, 5), at(0, 1, 6));
        due("21 none fits", y.implied(), NONE);
        y.change(1, 3, -5);
        due("21 the same twice", y.implied(), 3);
        due("21 no letters", new FarPost().implied(), 0);
    }

    private static void suspects() {
        FarPost x = forged(at(0, 1, 5), at(0, 1, 6), at(2, 3, 1));
        due("22 either of two", x.suspects(), 3);
        x.letter(FORGED, 0, 1, -5, 0);
        due("22 the one that is alone", x.suspects(), 2);
        x.letter(FORGED, 2, 3, 0, 0);
        due("22 one alone isn't enough", x.suspects(), 0);
        x.change(4, 5, 1);
        x.change(1, 4, 1);
        due("22 one fits: all that count", x.suspects(), 13);
        due("22 no letters", new FarPost().suspects(), 0);
    }

    private static void dearest() {
        FarPost x = new FarPost();
        due("23 no letters", x.dearest(), NONE);
        x.letter(COPIED, 0, 1, 0, 0);
        due("23 none counts", x.dearest(), NONE);
        x.letter(FORGED, 2, 3, 0, 0);
        x.letter(FORGED, 4, 5, 0, 0);
        due("23 of alike ones the least", x.dearest(), 1);
        x.go(2);
        // Towns 2, 3, 6, 7 in a chain: cut in its middle, four pairs are free instead of three at its ends.
        x.letter(FORGED, 3, 6, 0, 0);
        x.letter(FORGED, 6, 7, 0, 0);
        due("23 the middle of a chain", x.dearest(), 3);
        x.letter(FORGED, 2, 6, 0, 0);
        due("23 not the one that others imply", x.dearest(), 4);
        x.change(4, 3, 1);
        x.change(5, 3, 1);
        due("23 none fits", x.dearest(), NONE);
    }

    private static void merge() {
        FarPost x = forged(at(0, 1, 5), at(1, 2, 6), at(0, 2, 12), at(0, 2, 11));
        due("24 nothing to leave", x.merge(3, 8), 0);
        due("24 one to leave", x.merge(3, 12), 4);
        due("24 those of the first stay", x.merge(7, 0), NONE);
        due("24 the first stays", x.merge(4, 15), 8 + 1);
        due("24 of several the least", x.merge(0, 15), 4);
        due("24 the first is in the others", x.merge(3, 7), 4);
        due("24 the first can't hold", x.merge(12, 1), NONE);
        due("24 none", x.merge(0, 0), 0);
        x.change(2, 5, 1);
        x.change(3, 4, 999);
        due("24 struck or not, come or not", x.merge(3, 12), 4);
        due("24 beyond", x.merge(16, 0), BEYOND);
        due("24 beyond, others", x.merge(0, 16), BEYOND);
        due("24 beyond ahead of none", x.merge(12, 16), BEYOND);
        due("24 below 0", x.merge(-1, 0), BEYOND);
        due("24 below 0, others", x.merge(0, SMALL), BEYOND);
    }

    private static void kinds() {
        FarPost x = forged(at(0, 1, 5));
        x.letter(FORGED, 0, 1, -5, 0);
        due("25 day 0: late comers fit as well", x.kinds(1), 127);
        x.go(50);
        x.change(1, 3, 4);
        x.law(0, 0);
        // Day 50: it would come as any kind; 5 is from -999 to 9, and none of 4, -4, -5 to -3.
        due("25 4 days", x.kinds(1), 1 << LATE);
        x.law(0, 1);
        due("25 with slip", x.kinds(1), 1 << LETTER | 1 << HASTY | 1 << CARD | 1 << LATE);
        x.change(1, 3, -4);
        due("25 the other sign", x.kinds(1), 1 << COPIED);
        x.change(1, 4, 42);
        due("25 as a late one it doesn't come", x.kinds(1), 1 << COPIED | 1 << LATE);
        x.change(1, 5, 1);
        due("25 a struck one may be any", x.kinds(1), 127);
        x.letter(FORGED, 0, 1, 5, 0);
        due("25 others can't hold", x.kinds(1), 0);
        due("25 kind stays", x.of(1, 0), FORGED);
        due("25 no such letter", x.kinds(3), BEYOND);
        due("25 -1", x.kinds(-1), BEYOND);
        due("25 big", x.kinds(BIG), BEYOND);
    }

    private static void daysAndFewest() {
        FarPost x = forged(at(0, 1, 5));
        x.letter(LETTER, 0, 1, 0, 0);
        x.law(0, 2);
        // Day 0: all but 0 come later, and 0 isn't 3 to 7.
        due("26 day 0", x.days(1), 198);
        due("27 day 0", x.fewest(1), -99);
        x.go(99);
        due("26 day 99", x.days(1), 5);
        due("27 day 99", x.fewest(1), 3);
        x.law(1, 1);
        due("26 with frost", x.days(1), 7);
        due("27 with frost", x.fewest(1), -99);
        x.law(1, 0);
        x.change(1, 0, FORGED);
        due("26 forged", x.days(1), 1);
        due("27 forged", x.fewest(1), -5);
        x.change(1, 0, LATE);
        due("26 late", x.days(1), 102);
        due("27 late", x.fewest(1), -2);
        due("26 days stay", x.of(1, 3), 0);
        x.change(1, 5, 1);
        due("26 struck", x.days(1), 199);
        due("27 struck", x.fewest(1), -99);
        x.letter(FORGED, 0, 1, 5, 0);
        due("26 others can't hold", x.days(1), 0);
        due("27 others can't hold", x.fewest(1), NONE);
        FarPost y = forged(at(0, 1, 99));
        y.letter(SEALED, 0, 1, 0, 0);
        y.go(100);
        due("26 but 99", y.days(1), 1);
        due("27 but 99", y.fewest(1), 99);
        y.change(0, 3, 99);
        due("26 but -99", y.days(1), 1);
        due("27 but -99", y.fewest(1), -99);
        int[] bad = {3, -1, BIG, SMALL};
        for (int b : bad) {
            due("26 days(" + b + ")", x.days(b), BEYOND);
            due("27 fewest(" + b + ")", x.fewest(b), BEYOND);
        }
    }

    private static void tight() {
        FarPost x = new FarPost();
        due("28 no letters", x.tight(), NONE);
        x.letter(LETTER, 0, 1, 0, 0);
        x.letter(LETTER, 0, 1, 10, 0);
        x.law(0, 9);
        due("28 not come", x.tight(), NONE);
        x.go(10);
        due("28 5 is enough", x.tight(), 4);
        due("28 slip stays", x.now(4), 9);
        x.change(1, 3, 0);
        due("28 one fits with each", x.tight(), NONE);
        x.change(1, 3, 1);
        due("28 not with 0", x.tight(), 0);
        x.change(0, 0, CARD);
        x.change(1, 3, 10);
        due("28 three times 4 is enough", x.tight(), 3);
        x.letter(FORGED, 2, 3, 5, 0);
        x.letter(FORGED, 2, 3, 6, 0);
        due("28 not with 9", x.tight(), 9);
    }

    private static void loses() {
        FarPost x = new FarPost();
        for (int i = 0; i < 8; i++) {
            x.letter(LETTER, 0, 1, 0, 0);
        }
        int z = 1;
        int struck = 0;
        for (int n = 1; n <= 4; n++) {
            for (int i = 0; i < n; i++) {
                z = z * 1103515245 + 12345;
                int rest = (z >>> 8) % 16;
                struck |= rest < 8 ? 1 << rest : 0;
            }
            due("29 loses(" + n + ")", x.loses(n), Integer.bitCount(struck));
            due("29 struck", x.now(3), struck);
            due("29 z", x.count(6), z);
        }
        int[] bad = {0, -1, 21, BIG, SMALL};
        for (int b : bad) {
            due("29 loses(" + b + ")", x.loses(b), BEYOND);
        }
        due("29 z stays", x.count(6), z);
        FarPost y = new FarPost();
        due("29 no letters", y.loses(20), 0);
        y.letter(FORGED, 0, 1, 0, 0);
        y.change(0, 5, 1);
        y.seed(0);
        // 12345 >>> 8 is 48: number 0, which is struck already.
        due("29 struck ones count too", y.loses(1), 1);
        y.letter(FORGED, 0, 1, 0, 0);
        y.change(0, 5, 0);
        y.seed(0);
        due("29 letter 0", y.loses(1), 1);
        due("29 is letter 0", y.now(3), 1);
    }

    private static void odds() {
        FarPost x = new FarPost();
        due("30 none counts", x.odds(14, 0), 1);
        due("30 none counts, below", x.odds(14, 1), 1);
        x.letter(FORGED, 0, 1, 0, 0);
        due("30 15^14", x.odds(14, 0), 29192926025390625L);
        due("30 16^14", x.odds(14, 1), 72057594037927936L);
        due("30 0 draws", x.odds(0, 0), 1);
        due("30 0 draws, below", x.odds(0, 1), 1);
        x.letter(FORGED, 0, 1, 0, 0);
        due("30 7/8 twice", x.odds(2, 0), 49);
        due("30 7/8 twice, below", x.odds(2, 1), 64);
        x.letter(FORGED, 0, 1, 0, 0);
        x.letter(FORGED, 0, 1, 0, 0);
        due("30 3/4", x.odds(3, 0), 27);
        due("30 3/4, below", x.odds(3, 1), 64);
        x.change(0, 5, 1);
        x.change(1, 4, 1);
        due("30 two don't count", x.odds(1, 0), 7);
        due("30 two don't count, below", x.odds(1, 1), 8);
        x.change(0, 5, 0);
        x.change(1, 4, 0);
        for (int i = 4; i < 8; i++) {
            x.letter(FORGED, 0, 1, 0, 0);
        }
        due("30 half", x.odds(14, 0), 1);
        due("30 half, below", x.odds(14, 1), 16384);
        int[][] bad = {{-1, 0}, {15, 0}, {0, -1}, {0, 2}, {BIG, 0}, {0, SMALL}};
        for (int[] b : bad) {
            due("30 odds(" + b[0] + ", " + b[1] + ")", x.odds(b[0], b[1]), BEYOND);
        }
        due("30 findings", x.status(0), bad.length);
        due("30 no draw is made", x.count(6), 1);
    }

    private static void seed() {
        FarPost x = new FarPost();
        due("31 at first", x.seed(BIG), 1);
        due("31 then", x.seed(BEYOND), BIG);
        due("31 may look like a finding", x.seed(0), BEYOND);
        x.seed(NONE);
        due("31 in count(6), too", x.count(6), NONE);
        due("31 but is none", x.status(-1), 0);
    }

    private static void feedAndWipe() {
        FarPost x = new FarPost();
        due("32 one", x.feed('s', 1), 1);
        due("32 two", x.feed('l' << 8 | 'i', 2), 3);
        due("32 three", x.feed('p' << 16 | ' ' << 8 | '0', 3), 6);
        due("32 four, of which the highest is a sign", x.feed(0x30303039, 4), 10);
        due("32 they stand in this order", x.text(), 1);
        due("32 and tell slip", x.now(4), 9);
        due("32 others are left out", x.feed(0x41414141, 1), 1);
        due("32 n 0", x.feed(0, 0), BEYOND);
        due("32 n 5", x.feed(0, 5), BEYOND);
        due("32 n far", x.feed(0, BIG), BEYOND);
        due("32 n -1", x.feed(0, -1), BEYOND);
        for (int i = 0; i < 29; i++) {
            x.feed(-1, 4);
        }
        due("32 117", x.count(5), 117);
        due("32 no room for four", x.feed(0, 4), FULL);
        due("32 beyond ahead of full", x.feed(0, 5), BEYOND);
        due("32 room for three", x.feed(0, 3), 120);
        due("32 full", x.feed(0, 1), FULL);
        due("33 wiped", x.wipe(), 120);
        due("33 empty", x.wipe(), 0);
        due("33 it has none", x.count(5), 0);
        due("33 room again", x.feed(0, 4), 4);
    }

    private static void text() {
        FarPost x = new FarPost();
        due("34 one of all", read(x, "letter 0 1 days 5;hasty 1 2 days - 6 mark 7;sealed2 3days8struck"), 3);
        due("34 empty then", x.count(5), 0);
        int[][] told = {{LETTER, 0, 1, 5, 0, 0}, {HASTY, 1, 2, -6, 7, 0}, {SEALED, 2, 3, 8, 0, 1}};
        for (int i = 0; i < told.length; i++) {
            for (int what = 0; what < 6; what++) {
                due("34 of(" + i + ", " + what + ")", x.of(i, what), told[i][what]);
            }
        }
        due("34 more", read(x, "  forged 7 0 days-99 mark 999 struck ; copied 3 4 days 0099;card 0007 5 days 0;slip 9"), 4);
        due("34 and more", read(x, "late 6 5 days 9 mark 0;frost 8;slip 0;frost 000000000000000000000007  "), 4);
        int[][] others = {{FORGED, 7, 0, -99, 999, 1}, {COPIED, 3, 4, 99, 0, 0}, {CARD, 7, 5, 0, 0, 0}, {LATE, 6, 5, 9, 0, 0}};
        for (int i = 0; i < others.length; i++) {
            for (int what = 0; what < 6; what++) {
                due("34 of(" + (3 + i) + ", " + what + ")", x.of(3 + i, what), others[i][what]);
            }
        }
        due("34 slip, as told last", x.now(4), 0);
        due("34 frost, as told last", x.now(5), 7);
        due("34 letters", x.count(1), 7);
        due("34 no findings", x.status(-1), 0);
    }

    private static void textFaults() {
        String[] texts = {"", "   ", "letter", "letter ", "Letter 0 1 days 0", "letter 8 1 days 0", "letter 0 0 days 0",
            "letter 0 01 days 0 days", "letter 0 1 day 0", "letter 0 1 5", "letter 0 1 days 100", "letter 0 1 days -100",
            "letter 0 1 days - - 1", "letter 0 1 days", "letter 0 1 days -", "letter 0 1 days 1 mark", "letter - 1 1",
            "letter 0 1 days 1 mark 1000", "letter 0 1 days 1 mark -1", "letter 0 1 days 1 struck mark 1",
            "letter 0 1 days 1 struck struck", "letter 0 1 days 1 ;", "letter 0 1 days 1;;", "; slip 1", "slip", "slip 10",
            "slip -1", "frost 10", "slip 1 slip 2", "slip 1;frosts 2", "slip 1\t", "slip 1.", "mark 1", "struck", "days 3",
            "letters 0 1 days 0", "lette 0 1 days 0", "slip 1;letter 0 1 days 99999999999999999999", "slip 4294967297",
            "5", "letter letter", "letter 0;", "letter 0 1;", "slip 1; ", "slip 1;slip 2;slip 3;slip x", "slip;", "sl ip 1",
            "letter 0 1 days 1 mark 1 2", "slip 1 -", "letter 0 1 days 1 mark 5 mark 6"};
        int[] faults = {0, 3, 6, 7, 0, 7, 9, 19, 11, 11, 16, 17, 18, 15, 17, 22, 7,
            23, 23, 25,
            25, 19, 18, 0, 4, 5,
            5, 6, 7, 7, 6, 6, 0, 0, 0,
            0, 0, 23, 5,
            0, 7, 8, 10, 8, 26, 4, 0,
            25, 7, 25};
        for (int i = 0; i < texts.length; i++) {
            FarPost x = new FarPost();
            due("34 text '" + texts[i] + "'", read(x, texts[i]), -1 - faults[i]);
            due("34 empty behind a fault", x.count(5), 0);
            due("34 no letter behind a fault", x.count(1), 0);
            due("34 no slip behind a fault", x.now(4), 0);
            due("34 no frost behind a fault", x.now(5), 0);
            due("34 a fault is no finding", x.status(-1), 0);
        }
        FarPost y = new FarPost();
        y.feed(0x736c6970, 4);
        y.feed(200, 1);
        due("34 byte 200", y.text(), -1 - 4);
        y.feed(0, 1);
        due("34 byte 0", y.text(), -1);
    }

    private static void textFull() {
        FarPost x = new FarPost();
        for (int i = 0; i < 7; i++) {
            x.letter(LETTER, 0, 1, 0, 0);
        }
        due("34 the word of a 9th", read(x, "slip 1; card 0 1 days 1; card 0 1 days 1"), -1 - 25);
        due("34 nothing came", x.count(1), 7);
        due("34 nor slip", x.now(4), 0);
        due("34 an 8th", read(x, "card 0 1 days 1;slip 2"), 2);
        due("34 the word at once", read(x, "card 9 9"), -1);
        due("34 laws still", read(x, "slip 3;frost 4"), 2);
        due("34 slip", x.now(4), 3);
        due("34 no findings", x.status(-1), 0);
    }

    private static void hold() {
        FarPost x = new FarPost();
        due("35 nothing", x.hold(0, -1), 1);
        due("35 no such letter", x.hold(0, 0), BEYOND);
        x.letter(LETTER, 0, 1, 0, 0);
        x.letter(CARD, 0, 1, 0, 0);
        due("35 a letter", x.hold(0, 0), 1);
        due("35 another spot", x.hold(9, 1), 1);
        due("35 two are held", x.count(7), 2);
        due("35 which", x.as(9, LETTER), 1);
        due("35 no longer", x.hold(9, -1), 1);
        due("35 one is held", x.count(7), 1);
        int[][] bad = {{-1, 0}, {10, 0}, {0, 2}, {0, -2}, {BIG, 0}, {0, SMALL}, {0, BIG}};
        for (int[] b : bad) {
            due("35 hold(" + b[0] + ", " + b[1] + ")", x.hold(b[0], b[1]), BEYOND);
        }
        due("35 it stays", x.as(0, LETTER), 0);
    }

    private static void as() {
        FarPost x = new FarPost();
        int[] under = {1 << LETTER, 1 << LETTER | 1 << HASTY, 1 << LETTER | 1 << SEALED,
            1 << LETTER | 1 << SEALED | 1 << FORGED, 1 << LETTER | 1 << SEALED | 1 << FORGED | 1 << COPIED,
            1 << LETTER | 1 << CARD, 1 << LETTER | 1 << HASTY | 1 << LATE};
        for (int kind = 0; kind < 7; kind++) {
            x.letter(kind, 0, 1, 0, 0);
            x.hold(kind + 1, kind);
            for (int as = 0; as < 7; as++) {
                due("36 kind " + kind + " as " + as, x.as(kind + 1, as), (under[kind] >> as & 1) == 1 ? kind : KIND);
            }
        }
        x.change(6, 0, CARD);
        due("36 of another kind now", x.as(7, HASTY), KIND);
        due("36 of another kind now, too", x.as(7, CARD), 6);
        due("36 nothing", x.as(0, 0), MISSING);
        due("36 kind 7", x.as(0, 7), BEYOND);
        due("36 kind -1", x.as(1, -1), BEYOND);
        due("36 spot 10", x.as(10, 0), BEYOND);
        due("36 spot -1", x.as(-1, 0), BEYOND);
        due("36 far", x.as(BIG, SMALL), BEYOND);
    }

    private static void sheet() {
        FarPost x = new FarPost();
        due("37 8 bits", x.sheet(0, 8, 40), 40);
        due("37 16 bits", x.sheet(1, 16, 0), 0);
        due("37 32 bits", x.sheet(3, 32, 1), 1);
        due("37 missing", x.sheet(2, 0, 40), 0);
        due("37 is missing", x.load(2), MISSING);
        due("37 one of 0 numbers isn't missing", x.load(1), 0);
        due("37 nor has it one", x.write(1, 0, 0), BEYOND);
        int[][] bad = {{-1, 8, 1}, {4, 8, 1}, {0, 7, 1}, {0, -8, 1}, {0, 64, 1}, {0, 8, 41}, {0, 0, 41}, {BIG, 8, -1},
            {0, 9, -1}, {0, 8, BIG}};
        for (int[] b : bad) {
            due("37 sheet(" + b[0] + ", " + b[1] + ", " + b[2] + ")", x.sheet(b[0], b[1], b[2]), BEYOND);
        }
        due("37 n -1", x.sheet(0, 8, -1), SIZE);
        due("37 n -1 with bits 0", x.sheet(0, 0, -1), SIZE);
        due("37 n lowest", x.sheet(0, 16, SMALL), SIZE);
        due("37 it stays", x.write(0, 39, 1), 1);
        x.letter(LETTER, 0, 1, 50, 0);
        fill(x, 0, 8, 7);
        due("37 anew", x.sheet(0, 8, 1), 1);
        due("37 all 0: loaded", x.load(0), 1);
        due("37 all 0", x.of(0, 3), 0);
        due("37 it is taken away", x.sheet(0, 0, 0), 0);
        due("37 and missing", x.write(0, 0, 0), MISSING);
    }

    private static void write() {
        FarPost x = new FarPost();
        x.letter(LETTER, 0, 1, 50, 0);
        int[] bits = {8, 8, 8, 16, 16, 16, 32, 32};
        int[] writes = {255, 256 + 5, 157, 65535, 65536 + 6, 65437, -1, -99};
        int[] told = {-1, 5, -99, -1, 6, -99, -1, -99};
        for (int i = 0; i < bits.length; i++) {
            x.sheet(2, bits[i], 1);
            due("38 write", x.write(2, 0, writes[i]), 1);
            x.load(2);
            due("38 " + writes[i] + " in " + bits[i] + " bits", x.of(0, 3), told[i]);
        }
        x.sheet(2, 16, 1);
        x.write(2, 0, 255);
        due("38 255 in 16 bits", x.load(2), 0);
        x.sheet(2, 32, 1);
        x.write(2, 0, 65535);
        due("38 65535 in 32 bits", x.load(2), 0);
        due("38 number 1 of 1", x.write(2, 1, 0), BEYOND);
        due("38 number -1", x.write(2, -1, 0), BEYOND);
        due("38 number far", x.write(2, BIG, 0), BEYOND);
        due("38 missing", x.write(0, -1, 0), MISSING);
        due("38 sheet 4", x.write(4, 0, 0), BEYOND);
        due("38 sheet -1", x.write(-1, 0, 0), BEYOND);
    }

    private static void copy() {
        FarPost x = new FarPost();
        for (int i = 0; i < 5; i++) {
            x.letter(LETTER, 0, 1, 0, 0);
        }
        fill(x, 0, 8, 1, 2, 3, 4, 5);
        fill(x, 1, 8, 11, 12, 13);
        fill(x, 2, 16, 11, 12, 13);
        due("39 two", x.copy(1, 1, 0, 3, 2), 2);
        expectDays(x, 0, 1, 2, 3, 12, 13);
        due("39 up within one", x.copy(0, 0, 0, 1, 4), 4);
        expectDays(x, 0, 1, 1, 2, 3, 12);
        due("39 down within one", x.copy(0, 2, 0, 0, 3), 3);
        expectDays(x, 0, 2, 3, 12, 3, 12);
        due("39 none", x.copy(0, 5, 1, 3, 0), 0);
        int[][] bad = {{-1, 0, 1, 0, 0}, {4, 0, 1, 0, 0}, {0, 0, -1, 0, 0}, {0, 0, 4, 0, 0}, {0, -1, 1, 0, 1},
            {0, 0, 1, -1, 1}, {0, 0, 1, 0, -1}, {0, 5, 1, 0, 1}, {0, 0, 1, 3, 1}, {0, 0, 1, 0, 4}, {0, 6, 1, 0, 0},
            {0, 0, 1, 4, 0}, {0, BIG, 1, 0, 1}, {0, 1, 1, BIG, 1}, {0, 1, 1, 1, BIG}, {0, SMALL, 1, 0, 1},
            {0, 0, 1, 0, SMALL}, {3, 0, 4, 0, 0}, {4, 0, 3, 0, 0}};
        for (int[] b : bad) {
            due("39 copy(" + b[0] + ", " + b[1] + ", " + b[2] + ", " + b[3] + ", " + b[4] + ")",
                x.copy(b[0], b[1], b[2], b[3], b[4]), BEYOND);
        }
        due("39 from a missing one", x.copy(3, 0, 0, -1, 0), MISSING);
        due("39 to a missing one", x.copy(0, 0, 3, 0, 99), MISSING);
        due("39 other bits", x.copy(0, -1, 2, 0, 99), KIND);
        expectDays(x, 0, 2, 3, 12, 3, 12);
        expectDays(x, 1, 11, 12, 13);
    }

    private static void expectDays(FarPost x, int s, int... days) {
        due("39 all are loaded", x.load(s), days.length);
        for (int i = 0; i < days.length; i++) {
            due("39 number " + i, x.of(i, 3), days[i]);
        }
    }

    private static void load() {
        FarPost x = new FarPost();
        for (int i = 0; i < 3; i++) {
            x.letter(LETTER, 0, 1, 50, 0);
        }
        fill(x, 0, 16, -99, 99, 1, 2);
        due("40 there are but three", x.load(0), 3);
        due("40 sum", x.count(4), 1);
        fill(x, 0, 16, 5, 100, 7);
        due("40 up to 100", x.load(0), 1);
        due("40 first", x.of(0, 3), 5);
        due("40 second", x.of(1, 3), 99);
        due("40 third", x.of(2, 3), 1);
        fill(x, 0, 16, -100, 1);
        due("40 -100", x.load(0), 0);
        fill(x, 0, 32, 8, SMALL);
        due("40 lowest", x.load(0), 1);
        due("40 missing", x.load(1), MISSING);
        due("40 sheet 4", x.load(4), BEYOND);
        due("40 sheet -1", x.load(-1), BEYOND);
        due("40 no letters", emptyLoad(), 0);
    }

    private static int emptyLoad() {
        FarPost x = new FarPost();
        x.sheet(0, 8, 1);
        return x.load(0);
    }

    private static void judge() {
        FarPost x = forged(at(0, 1, 5), at(1, 2, 6), at(2, 0, -11), at(3, 2, 1));
        x.letter(HASTY, 0, 1, 4, 0);
        x.letter(COPIED, 0, 1, -6, 0);
        x.letter(FORGED, 0, 1, 0, 3);
        x.letter(FORGED, 0, 1, 0, 0);
        x.change(7, 5, 1);
        x.go(2);
        fill(x, 0, 16, 10, 15, 21);
        due("41 but the hasty one", x.judge(0), 16);
        fill(x, 0, 16, 10, 14, 21);
        due("41 others", x.judge(0), 3 + 32);
        fill(x, 0, 16, 10, 15, 21, 21);
        due("41 and with town 3", x.judge(0), 16 + 8);
        fill(x, 0, 16);
        due("41 no numbers", x.judge(0), 0);
        fill(x, 1, 16, 0, 999, 0, 0, 0, 0, 0, 0);
        due("41 999 apart", x.judge(1), 1 + 2 + 4 + 8 + 16 + 32);
        fill(x, 1, 16, 0, 999, -1);
        due("41 1000 apart", x.judge(1), STATE);
        fill(x, 1, 32, SMALL, BIG);
        due("41 farther apart than an int can tell", x.judge(1), STATE);
        fill(x, 1, 32, BIG - 16, BIG - 11, BIG - 5);
        due("41 high up", x.judge(1), 16);
        fill(x, 1, 8, 0, 0, 0, 0, 0, 0, 0, 0, 0);
        due("41 nine", x.judge(1), STATE);
        due("41 missing", x.judge(2), MISSING);
        due("41 sheet 4", x.judge(4), BEYOND);
        due("41 sheet -1", x.judge(-1), BEYOND);
    }

    private static void maps() {
        FarPost x = forged(at(0, 1, 5), at(2, 3, 6));
        x.letter(COPIED, 0, 3, -20, 0);
        x.go(2);
        fill(x, 0, 16, 7, 12);
        due("42 as told", x.maps(0), 1);
        fill(x, 0, 16, 7, 2);
        due("42 the other way", x.maps(0), 0);
        fill(x, 0, 16, 0, 5, 13);
        due("42 2 is 13 to 15 below 0", x.maps(0), 1);
        fill(x, 0, 16, 0, 5, 12);
        due("42 not 12", x.maps(0), 0);
        fill(x, 0, 16, 0, 5, 16);
        due("42 not 16", x.maps(0), 0);
        fill(x, 0, 16);
        due("42 no numbers", x.maps(0), 1);
        fill(x, 0, 16, 7);
        due("42 one number", x.maps(0), 1);
        fill(x, 1, 16, 0, 5, 13, 19, 0, -980, 0, 0);
        due("42 all eight", x.maps(1), 1);
        fill(x, 1, 16, 0, 999, 0, 0, 0, 0, 0, 0);
        due("42 999 apart", x.maps(1), 0);
        fill(x, 1, 16, 0, 1000);
        due("42 1000 apart", x.maps(1), STATE);
        fill(x, 1, 32, BIG, SMALL);
        due("42 far apart", x.maps(1), STATE);
        fill(x, 1, 32, SMALL, SMALL + 5, SMALL + 13);
        due("42 far down", x.maps(1), 1);
        fill(x, 1, 8, 0, 0, 0, 0, 0, 0, 0, 0, 0);
        due("42 nine", x.maps(1), STATE);
        due("42 missing", x.maps(2), MISSING);
        due("42 sheet 4", x.maps(4), BEYOND);
        due("42 sheet -1", x.maps(-1), BEYOND);
        x.letter(FORGED, 0, 1, 0, 0);
        due("42 none fits", x.maps(0), 0);
        fill(x, 0, 16);
        due("42 none fits, no numbers", x.maps(0), 0);
    }

    private static void images() {
        FarPost x = new FarPost();
        due("45 nothing was kept", x.tear(), 0);
        due("44 nothing is kept", x.undo(), NONE);
        x.letter(CARD, 3, 4, 5, 6);
        x.law(0, 2);
        x.law(1, 3);
        x.hold(4, 0);
        x.seed(77);
        x.go(9);
        due("43 image", x.image(), 1);
        for (int i = 0; i < 6; i++) {
            x.change(0, i, new int[] {LATE, 1, 2, 9, 8, 1}[i]);
        }
        x.letter(LETTER, 0, 1, 0, 0);
        x.law(0, 9);
        x.law(1, 9);
        x.hold(4, -1);
        x.hold(5, 1);
        x.loses(2);
        x.go(200);
        x.feed(1, 3);
        fill(x, 0, 8, 33);
        x.go(0);
        due("44 day", x.undo(), 9);
        int[] parts = {CARD, 3, 4, 5, 6, 0};
        for (int i = 0; i < parts.length; i++) {
            due("44 of(0, " + i + ")", x.of(0, i), parts[i]);
        }
        int[] counts = {9, 1, 0, 0, 5, 3, 77, 1};
        for (int i = 0; i < counts.length; i++) {
            due("44 count(" + i + "): all but the tape", x.count(i), counts[i]);
        }
        due("44 slip", x.now(4), 2);
        due("44 frost", x.now(5), 3);
        due("44 spot", x.as(4, CARD), 0);
        due("44 no finding is taken back", x.status(-1), 2);
        due("44 sheets stay", x.load(0), 1);
        due("44 as they are", x.of(0, 3), 33);
        due("44 it stays", x.undo(), 9);
        due("44 days again", x.of(0, 3), 5);
        x.go(1);
        due("43 a later one", x.image(), 1);
        x.go(1);
        due("44 the latest", x.undo(), 10);
        due("45 torn", x.tear(), 1);
        due("45 not twice", x.tear(), 0);
        due("44 nothing is kept any more", x.undo(), NONE);
        due("45 all else stays", x.count(0), 10);
    }

    private static void count() {
        FarPost x = forged(at(0, 1, 50), at(1, 2, 60), at(2, 3, -9));
        x.letter(LETTER, 0, 1, 7, 900);
        x.change(0, 5, 1);
        x.hold(0, 1);
        x.hold(1, 1);
        x.feed(0, 2);
        x.seed(5);
        x.go(3);
        int[] counts = {3, 4, 2, 1, -50 - 60 + 9 + 7, 2, 5, 2};
        for (int i = 0; i < counts.length; i++) {
            due("46 count(" + i + ")", x.count(i), counts[i]);
        }
        due("46 what 8", x.count(8), BEYOND);
        due("46 what -1", x.count(-1), BEYOND);
        due("46 what far", x.count(SMALL), BEYOND);
    }

    private static void status() {
        FarPost x = new FarPost();
        due("47 beyond", x.status(7), BEYOND);
        due("47 counted from then on", x.status(0), 1);
        due("47 -2", x.status(-2), BEYOND);
        due("47 far", x.status(BIG), BEYOND);
        x.dearest();
        x.write(0, 0, 0);
        x.load(0);
        x.sheet(0, 8, -1);
        fill(x, 0, 8, 0, 0, 0, 0, 0, 0, 0, 0, 0);
        x.judge(0);
        fill(x, 1, 16, 0);
        x.copy(0, 0, 1, 0, 1);
        x.copy(1, 0, 0, 0, 1);
        x.copy(1, 0, 0, 0, 1);
        for (int i = 0; i < 9; i++) {
            x.letter(LETTER, 0, 1, 0, 0);
        }
        int[] each = {3, 1, 3, 1, 1, 2, 1};
        for (int i = 0; i < each.length; i++) {
            due("47 status(" + i + ")", x.status(i), each[i]);
        }
        due("47 all", x.status(-1), 12);
        x.image();
        x.odds(-1, 0);
        x.undo();
        due("47 undo takes none back", x.status(-1), 13);
        due("47 nor of its kind", x.status(0), 4);
    }
}
