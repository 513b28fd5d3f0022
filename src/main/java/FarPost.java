import java.util.Arrays;

/**
 * A sorting office for letters from towns along a river that nobody has made, and the maps that fit these letters.
 * The numbered promises of the document say what each call does; the terms in capitals are its own.
 */
public final class FarPost {
    private static final int LOW = -1000001;
    private static final int FINE = -1;
    private static final int BEYOND = 0;
    private static final int FULL = 1;
    private static final int KIND = 2;
    private static final int NONE = 3;
    private static final int STATE = 4;
    private static final int MISSING = 5;
    private static final int SIZE = 6;
    private static final int FINDINGS = 7;

    private static final int TOWNS = 8;
    private static final int FARTHEST = 999;
    private static final int LETTERS = 8;
    private static final int KINDS = 7;
    private static final int DAYS_MOST = 99;
    private static final int MARK_MOST = 999;
    private static final int LAW_MOST = 9;
    private static final int DAY_MOST = 99999;
    private static final int GO_MOST = 200;
    private static final int AHEAD_MOST = 500;
    private static final int DRAW_SIDES = 16;
    private static final int LOSES_MOST = 20;
    private static final int ODDS_MOST = 14;
    private static final int TAPE_MOST = 120;
    private static final int SPOTS = 10;
    private static final int NOTHING = -1;
    private static final int SHEETS = 4;
    private static final int SHEET_MOST = 40;

    private final Office office = new Office();
    /** A text is read onto this one first, so that a fault in it leaves the office as it was. */
    private final Office draft = new Office();
    private final Office keptOffice = new Office();
    private boolean isKept = false;
    private final Chart chart = new Chart();
    /** A letter as it would be with another kind or other days. */
    private final Letter guess = new Letter();
    private final Tape tape = new Tape();
    private final Sheet[] sheets = new Sheet[SHEETS];
    private final int[] findings = new int[FINDINGS];

    public FarPost() {
        for (int s = 0; s < SHEETS; s++) {
            sheets[s] = new Sheet();
        }
    }

    // ---- letters

    public int letter(int kind, int from, int to, int days, int mark) {
        if (!isKind(kind) || !arePair(from, to) || !areDays(days) || !within(mark, 0, MARK_MOST)) {
            return finding(BEYOND);
        }
        if (office.letters >= LETTERS) {
            return finding(FULL);
        }
        return office.receive(kind, from, to, days, mark);
    }

    public int of(int letter, int what) {
        if (!office.has(letter) || !within(what, 0, 9)) {
            return finding(BEYOND);
        }
        Letter told = office.rows[letter];
        switch (what) {
            case 6:
                return told.least(office.slip);
            case 7:
                return told.most(office.slip);
            case 8:
                return told.comes(office.frost);
            case 9:
                return office.counts(told, office.day) ? 1 : 0;
            default:
                return told.part(what);
        }
    }

    public int change(int letter, int what, int v) {
        if (!office.has(letter) || !isPart(office.rows[letter], what, v)) {
            return finding(BEYOND);
        }
        int was = office.rows[letter].part(what);
        office.rows[letter].setPart(what, v);
        return was;
    }

    public int law(int what, int v) {
        if (!within(what, 0, 1) || !within(v, 0, LAW_MOST)) {
            return finding(BEYOND);
        }
        int was;
        if (what == 0) {
            was = office.slip;
            office.slip = v;
        } else {
            was = office.frost;
            office.frost = v;
        }
        return was;
    }

    // ---- days

    public int go(int n) {
        if (!within(n, 1, GO_MOST)) {
            return finding(BEYOND);
        }
        if (office.day + n > DAY_MOST) {
            return finding(STATE);
        }
        office.day += n;
        return counting();
    }

    public int now(int what) {
        switch (what) {
            case 0:
                return office.day;
            case 1:
                return counting();
            case 2:
                return office.toCome();
            case 3:
                return office.struckOnes();
            case 4:
                return office.slip;
            case 5:
                return office.frost;
            default:
                return finding(BEYOND);
        }
    }

    // ---- maps

    public int fits() {
        return canHold(counting()) ? 1 : 0;
    }

    public int span(int a, int b, int what) {
        if (!arePair(a, b) || !within(what, 0, 2)) {
            return finding(BEYOND);
        }
        if (!canHold(counting())) {
            return finding(NONE);
        }
        if (what == 0) {
            return chart.leastBelow(a, b);
        }
        return what == 1 ? chart.mostBelow(a, b) : chart.width(a, b);
    }

    public int sure(int town) {
        if (!isTown(town)) {
            return finding(BEYOND);
        }
        if (!canHold(counting())) {
            return finding(NONE);
        }
        int set = 0;
        for (int other = 0; other < TOWNS; other++) {
            if (chart.width(town, other) == 1) {
                set |= 1 << other;
            }
        }
        return set;
    }

    public int below(int town) {
        if (!isTown(town)) {
            return finding(BEYOND);
        }
        if (!canHold(counting())) {
            return finding(NONE);
        }
        int set = 0;
        for (int other = 0; other < TOWNS; other++) {
            if (chart.leastBelow(town, other) > 0) {
                set |= 1 << other;
            }
        }
        return set;
    }

    public int widest() {
        if (!canHold(counting())) {
            return finding(NONE);
        }
        return chart.widestPair();
    }

    public int unknown() {
        if (!canHold(counting())) {
            return finding(NONE);
        }
        return chart.allWidths();
    }

    public int can(int a, int b, int v) {
        if (!arePair(a, b) || !within(v, -FARTHEST, FARTHEST)) {
            return finding(BEYOND);
        }
        return canHold(counting()) && chart.allows(a, b, v, v) ? 1 : 0;
    }

    // ---- what will be

    public int when() {
        int drawn = 0;
        for (int n = 0; n <= AHEAD_MOST; n++) {
            int set = office.countingOn(office.day + n);
            // Most days bring no letter, and the map of the day before still stands.
            if (set != drawn && !canHold(set)) {
                return n;
            }
            drawn = set;
        }
        return finding(NONE);
    }

    public int ahead(int n) {
        if (!within(n, 0, AHEAD_MOST)) {
            return finding(BEYOND);
        }
        return office.countingOn(office.day + n);
    }

    public int known(int a, int b) {
        if (!arePair(a, b)) {
            return finding(BEYOND);
        }
        int drawn = 0;
        for (int n = 0; n <= AHEAD_MOST; n++) {
            int set = office.countingOn(office.day + n);
            // No two towns are sure without a letter, so the empty set needs no look.
            if (set != drawn && canHold(set) && chart.width(a, b) == 1) {
                return n;
            }
            drawn = set;
        }
        return finding(NONE);
    }

    // ---- letters among each other

    public int agree(int letters) {
        if (!office.hasAll(letters)) {
            return finding(BEYOND);
        }
        return canHold(letters) ? 1 : 0;
    }

    public int strike() {
        return fewestOut(0, counting());
    }

    public int strikes() {
        int set = counting();
        int few = Integer.bitCount(fewestOut(0, set));
        int sets = 0;
        for (int out = 0; out <= set; out++) {
            if (isPick(out, set, few) && canHold(set & ~out)) {
                sets++;
            }
        }
        return sets;
    }

    public int implied() {
        int set = counting();
        if (!canHold(set)) {
            return finding(NONE);
        }
        int told = 0;
        for (int i = 0; i < office.letters; i++) {
            if (isIn(i, set) && canHold(without(i, set)) && chart.implies(office.rows[i], office.slip)) {
                told |= 1 << i;
            }
        }
        return told;
    }

    public int suspects() {
        int set = counting();
        int told = 0;
        for (int i = 0; i < office.letters; i++) {
            if (isIn(i, set) && canHold(without(i, set))) {
                told |= 1 << i;
            }
        }
        return told;
    }

    public int dearest() {
        int set = counting();
        if (set == 0 || !canHold(set)) {
            return finding(NONE);
        }
        int best = 0;
        int most = -1;
        for (int i = 0; i < office.letters; i++) {
            if (isIn(i, set) && canHold(without(i, set)) && chart.allWidths() > most) {
                most = chart.allWidths();
                best = i;
            }
        }
        return best;
    }

    public int merge(int letters, int others) {
        if (!office.hasAll(letters) || !office.hasAll(others)) {
            return finding(BEYOND);
        }
        if (!canHold(letters)) {
            return finding(NONE);
        }
        return fewestOut(letters, others & ~letters);
    }

    public int kinds(int letter) {
        if (!office.has(letter)) {
            return finding(BEYOND);
        }
        startGuess(letter);
        int set = 0;
        for (int kind = 0; kind < KINDS; kind++) {
            guess.kind = kind;
            if (guessFits()) {
                set |= 1 << kind;
            }
        }
        return set;
    }

    public int days(int letter) {
        if (!office.has(letter)) {
            return finding(BEYOND);
        }
        startGuess(letter);
        int many = 0;
        for (int days = -DAYS_MOST; days <= DAYS_MOST; days++) {
            guess.days = days;
            if (guessFits()) {
                many++;
            }
        }
        return many;
    }

    public int fewest(int letter) {
        if (!office.has(letter)) {
            return finding(BEYOND);
        }
        startGuess(letter);
        for (int days = -DAYS_MOST; days <= DAYS_MOST; days++) {
            guess.days = days;
            if (guessFits()) {
                return days;
            }
        }
        return finding(NONE);
    }

    public int tight() {
        int set = counting();
        for (int slip = LAW_MOST; slip >= 0; slip--) {
            drawChart(set, slip);
            if (!chart.possible) {
                return slip;
            }
        }
        return finding(NONE);
    }

    // ---- lost post

    public int loses(int n) {
        if (!within(n, 1, LOSES_MOST)) {
            return finding(BEYOND);
        }
        for (int i = 0; i < n; i++) {
            int number = office.draw() % DRAW_SIDES;
            if (office.has(number)) {
                office.rows[number].struck = 1;
            }
        }
        return Integer.bitCount(office.struckOnes());
    }

    public long odds(int n, int what) {
        if (!within(n, 0, ODDS_MOST) || !within(what, 0, 1)) {
            return finding(BEYOND);
        }
        int above = DRAW_SIDES - Integer.bitCount(counting());
        int under = DRAW_SIDES;
        // The sides are two by two by two by two: only halves can be cut.
        for (int i = 0; i < 4 && above % 2 == 0; i++) {
            above /= 2;
            under /= 2;
        }
        long told = 1;
        for (int i = 0; i < n; i++) {
            told *= what == 0 ? above : under;
        }
        return told;
    }

    public int seed(int v) {
        int was = office.z;
        office.z = v;
        return was;
    }

    // ---- texts

    public int feed(int bytes, int n) {
        if (!within(n, 1, 4)) {
            return finding(BEYOND);
        }
        if (tape.size + n > TAPE_MOST) {
            return finding(FULL);
        }
        for (int i = n - 1; i >= 0; i--) {
            tape.append((bytes >>> (8 * i)) & 255);
        }
        return tape.size;
    }

    public int wipe() {
        int had = tape.size;
        tape.size = 0;
        return had;
    }

    public int text() {
        draft.become(office);
        int items = tape.readOnto(draft);
        if (items >= 0) {
            office.become(draft);
        }
        tape.size = 0;
        return items;
    }

    // ---- spots, sheets

    public int hold(int spot, int letter) {
        if (!within(spot, 0, SPOTS - 1) || letter != NOTHING && !office.has(letter)) {
            return finding(BEYOND);
        }
        office.spots[spot] = letter;
        return 1;
    }

    public int as(int spot, int kind) {
        if (!within(spot, 0, SPOTS - 1) || !isKind(kind)) {
            return finding(BEYOND);
        }
        int letter = office.spots[spot];
        if (!office.has(letter)) {
            return finding(MISSING);
        }
        if (!isUnder(office.rows[letter].kind, kind)) {
            return finding(KIND);
        }
        return letter;
    }

    public int sheet(int s, int bits, int n) {
        if (!isSheet(s) || bits != 0 && bits != 8 && bits != 16 && bits != 32) {
            return finding(BEYOND);
        }
        if (n < 0) {
            return finding(SIZE);
        }
        if (n > SHEET_MOST) {
            return finding(BEYOND);
        }
        sheets[s].renew(bits, bits == 0 ? 0 : n);
        return sheets[s].size;
    }

    public int write(int s, int i, int v) {
        int trouble = sheetTrouble(s);
        if (trouble != FINE) {
            return finding(trouble);
        }
        if (!within(i, 0, sheets[s].size - 1)) {
            return finding(BEYOND);
        }
        sheets[s].put(i, v);
        return 1;
    }

    public int copy(int s, int from, int t, int to, int n) {
        if (!isSheet(s) || !isSheet(t)) {
            return finding(BEYOND);
        }
        if (sheets[s].isMissing() || sheets[t].isMissing()) {
            return finding(MISSING);
        }
        if (sheets[s].bits != sheets[t].bits) {
            return finding(KIND);
        }
        if (!sheets[s].hasRun(from, n) || !sheets[t].hasRun(to, n)) {
            return finding(BEYOND);
        }
        System.arraycopy(sheets[s].numbers, from, sheets[t].numbers, to, n);
        return n;
    }

    public int load(int s) {
        int trouble = sheetTrouble(s);
        if (trouble != FINE) {
            return finding(trouble);
        }
        int came = 0;
        for (int i = 0; i < sheets[s].size; i++) {
            int days = sheets[s].numbers[i];
            if (!areDays(days) || !office.has(i)) {
                break;
            }
            office.rows[i].days = days;
            came++;
        }
        return came;
    }

    public int judge(int s) {
        int trouble = placesTrouble(s);
        if (trouble != FINE) {
            return finding(trouble);
        }
        int set = counting();
        int wrong = 0;
        for (int i = 0; i < office.letters; i++) {
            if (isIn(i, set) && sheets[s].denies(office.rows[i], office.slip)) {
                wrong |= 1 << i;
            }
        }
        return wrong;
    }

    public int maps(int s) {
        int trouble = placesTrouble(s);
        if (trouble != FINE) {
            return finding(trouble);
        }
        drawChart(counting(), office.slip);
        for (int town = 1; town < sheets[s].size; town++) {
            int far = sheets[s].numbers[town] - sheets[s].numbers[0];
            chart.narrow(0, town, far, far);
        }
        return chart.possible ? 1 : 0;
    }

    // ---- images

    public int image() {
        keptOffice.become(office);
        isKept = true;
        return 1;
    }

    public int undo() {
        if (!isKept) {
            return finding(NONE);
        }
        office.become(keptOffice);
        return office.day;
    }

    public int tear() {
        int had = isKept ? 1 : 0;
        isKept = false;
        return had;
    }

    public int count(int what) {
        switch (what) {
            case 0:
                return office.day;
            case 1:
                return office.letters;
            case 2:
                return Integer.bitCount(counting());
            case 3:
                return Integer.bitCount(office.struckOnes());
            case 4:
                return office.allDays();
            case 5:
                return tape.size;
            case 6:
                return office.z;
            case 7:
                return office.heldSpots();
            default:
                return finding(BEYOND);
        }
    }

    public int status(int which) {
        if (!within(which, -1, FINDINGS - 1)) {
            return finding(BEYOND);
        }
        if (which >= 0) {
            return findings[which];
        }
        int all = 0;
        for (int i = 0; i < FINDINGS; i++) {
            all += findings[i];
        }
        return all;
    }

    // ---- what the calls share

    private int finding(int which) {
        findings[which]++;
        return LOW - which;
    }

    private int counting() {
        return office.countingOn(office.day);
    }

    /** Whether a set of letters can hold together in a map; the chart shows all such maps. */
    private boolean canHold(int set) {
        drawChart(set, office.slip);
        return chart.possible;
    }

    private void drawChart(int set, int slip) {
        chart.clear();
        for (int i = 0; i < office.letters && chart.possible; i++) {
            if (isIn(i, set)) {
                Letter letter = office.rows[i];
                chart.narrow(letter.from, letter.to, letter.least(slip), letter.most(slip));
            }
        }
    }

    /** The guess begins as a letter is; the chart shows all the other letters that count. */
    private void startGuess(int letter) {
        guess.become(office.rows[letter]);
        drawChart(without(letter, counting()), office.slip);
    }

    /** Whether a map fits with the guess, where the chart shows all the other letters that count. */
    private boolean guessFits() {
        if (!chart.possible || !office.counts(guess, office.day)) {
            return chart.possible;
        }
        int least = guess.least(office.slip);
        return chart.allows(guess.from, guess.to, least, guess.most(office.slip));
    }

    /** The fewest of a set without which the others of it can hold together with all that stay. */
    private int fewestOut(int stay, int set) {
        for (int few = 0; few <= LETTERS; few++) {
            for (int out = 0; out <= set; out++) {
                if (isPick(out, set, few) && canHold(stay | (set & ~out))) {
                    return out;
                }
            }
        }
        return set;
    }

    private static boolean isPick(int out, int set, int few) {
        return (out & ~set) == 0 && Integer.bitCount(out) == few;
    }

    private static boolean isIn(int number, int set) {
        return (set >> number & 1) == 1;
    }

    private static int without(int number, int set) {
        return set & ~(1 << number);
    }

    private static boolean within(int v, int least, int most) {
        return v >= least && v <= most;
    }

    private static boolean isKind(int kind) {
        return within(kind, 0, KINDS - 1);
    }

    private static boolean isTown(int town) {
        return within(town, 0, TOWNS - 1);
    }

    private static boolean arePair(int a, int b) {
        return isTown(a) && isTown(b) && a != b;
    }

    private static boolean areDays(int days) {
        return within(days, -DAYS_MOST, DAYS_MOST);
    }

    private static boolean isPart(Letter letter, int what, int v) {
        switch (what) {
            case 0:
                return isKind(v);
            case 1:
                return arePair(v, letter.to);
            case 2:
                return arePair(letter.from, v);
            case 3:
                return areDays(v);
            case 4:
                return within(v, 0, MARK_MOST);
            case 5:
                return within(v, 0, 1);
            default:
                return false;
        }
    }

    private static boolean isUnder(int kind, int top) {
        int at = kind;
        for (int steps = 0; steps < KINDS && at != NOTHING; steps++) {
            if (at == top) {
                return true;
            }
            at = Letter.kindAbove(at);
        }
        return false;
    }

    private static boolean isSheet(int s) {
        return within(s, 0, SHEETS - 1);
    }

    private int sheetTrouble(int s) {
        if (!isSheet(s)) {
            return BEYOND;
        }
        return sheets[s].isMissing() ? MISSING : FINE;
    }

    private int placesTrouble(int s) {
        int trouble = sheetTrouble(s);
        if (trouble != FINE) {
            return trouble;
        }
        return sheets[s].arePlaces() ? FINE : STATE;
    }

    /** A LETTER. */
    private static final class Letter {
        private static final int PLAIN = 0;
        private static final int HASTY = 1;
        private static final int SEALED = 2;
        private static final int FORGED = 3;
        private static final int COPIED = 4;
        private static final int CARD = 5;
        private static final int LATE = 6;

        int kind = PLAIN;
        int from = 0;
        int to = 0;
        int days = 0;
        int mark = 0;
        int struck = 0;

        static int kindAbove(int kind) {
            switch (kind) {
                case HASTY:
                case SEALED:
                case CARD:
                    return PLAIN;
                case FORGED:
                    return SEALED;
                case COPIED:
                    return FORGED;
                case LATE:
                    return HASTY;
                default:
                    return NOTHING;
            }
        }

        static String kindName(int kind) {
            switch (kind) {
                case HASTY:
                    return "hasty";
                case SEALED:
                    return "sealed";
                case FORGED:
                    return "forged";
                case COPIED:
                    return "copied";
                case CARD:
                    return "card";
                case LATE:
                    return "late";
                default:
                    return "letter";
            }
        }

        int part(int what) {
            switch (what) {
                case 0:
                    return kind;
                case 1:
                    return from;
                case 2:
                    return to;
                case 3:
                    return days;
                case 4:
                    return mark;
                default:
                    return struck;
            }
        }

        void setPart(int what, int v) {
            switch (what) {
                case 0:
                    kind = v;
                    break;
                case 1:
                    from = v;
                    break;
                case 2:
                    to = v;
                    break;
                case 3:
                    days = v;
                    break;
                case 4:
                    mark = v;
                    break;
                default:
                    struck = v;
                    break;
            }
        }

        void become(Letter other) {
            kind = other.kind;
            from = other.from;
            to = other.to;
            days = other.days;
            mark = other.mark;
            struck = other.struck;
        }

        int least(int slip) {
            switch (kind) {
                case HASTY:
                case LATE:
                    return -FARTHEST;
                case CARD:
                    return days - slip - slip;
                case SEALED:
                    return days;
                case FORGED:
                    return -days;
                case COPIED:
                    return -days - 1;
                default:
                    return days - slip;
            }
        }

        int most(int slip) {
            switch (kind) {
                case LATE:
                    return days + slip + 5;
                case CARD:
                    return days + slip + slip;
                case SEALED:
                    return days;
                case FORGED:
                    return -days;
                case COPIED:
                    return -days + 1;
                default:
                    return days + slip;
            }
        }

        int comes(int frost) {
            int far = Math.abs(days);
            switch (kind) {
                case HASTY:
                    return mark + far / 2;
                case LATE:
                    return mark + far / 2 + 10;
                case SEALED:
                    return mark + far + frost + 1;
                case FORGED:
                    return mark;
                case COPIED:
                    return mark + 2;
                default:
                    return mark + far + frost;
            }
        }
    }

    /** All that an image keeps. */
    private static final class Office {
        final Letter[] rows = new Letter[LETTERS];
        int letters = 0;
        int slip = 0;
        int frost = 0;
        int day = 0;
        int z = 1;
        final int[] spots = new int[SPOTS];

        Office() {
            for (int i = 0; i < LETTERS; i++) {
                rows[i] = new Letter();
            }
            Arrays.fill(spots, NOTHING);
        }

        void become(Office other) {
            for (int i = 0; i < LETTERS; i++) {
                rows[i].become(other.rows[i]);
            }
            letters = other.letters;
            slip = other.slip;
            frost = other.frost;
            day = other.day;
            z = other.z;
            System.arraycopy(other.spots, 0, spots, 0, SPOTS);
        }

        boolean has(int letter) {
            return letter >= 0 && letter < letters;
        }

        boolean hasAll(int set) {
            return set >= 0 && set < 1 << letters;
        }

        /** A new letter, where there is room for one. */
        int receive(int kind, int from, int to, int days, int mark) {
            Letter row = rows[letters];
            row.kind = kind;
            row.from = from;
            row.to = to;
            row.days = days;
            row.mark = mark;
            row.struck = 0;
            letters++;
            return letters - 1;
        }

        boolean counts(Letter letter, int onDay) {
            return letter.struck == 0 && letter.comes(frost) <= onDay;
        }

        int countingOn(int onDay) {
            int set = 0;
            for (int i = 0; i < letters; i++) {
                if (counts(rows[i], onDay)) {
                    set |= 1 << i;
                }
            }
            return set;
        }

        int toCome() {
            int set = 0;
            for (int i = 0; i < letters; i++) {
                if (rows[i].comes(frost) > day) {
                    set |= 1 << i;
                }
            }
            return set;
        }

        int struckOnes() {
            int set = 0;
            for (int i = 0; i < letters; i++) {
                set |= rows[i].struck << i;
            }
            return set;
        }

        int allDays() {
            int sum = 0;
            for (int i = 0; i < letters; i++) {
                sum += rows[i].days;
            }
            return sum;
        }

        int heldSpots() {
            int held = 0;
            for (int i = 0; i < SPOTS; i++) {
                if (spots[i] != NOTHING) {
                    held++;
                }
            }
            return held;
        }

        int draw() {
            z = z * 1103515245 + 12345;
            return z >>> 8;
        }
    }

    /** All maps in which some letters hold: for each two towns the most that BELOW of them can be. */
    private static final class Chart {
        boolean possible = true;
        private final int[] tops = new int[TOWNS * TOWNS];

        void clear() {
            possible = true;
            Arrays.fill(tops, FARTHEST);
            for (int town = 0; town < TOWNS; town++) {
                tops[town * TOWNS + town] = 0;
            }
        }

        /** From now on BELOW of two towns is from least to most. */
        void narrow(int a, int b, int least, int most) {
            limit(a, b, most);
            limit(b, a, -least);
        }

        /** Keeps the chart closed: each limit is also the least sum of limits by way of other towns. */
        private void limit(int a, int b, int most) {
            if (!possible || most >= mostBelow(a, b)) {
                return;
            }
            if (most < leastBelow(a, b)) {
                possible = false;
                return;
            }
            for (int i = 0; i < TOWNS; i++) {
                int toB = mostBelow(i, a) + most;
                for (int j = 0; j < TOWNS; j++) {
                    int way = toB + mostBelow(b, j);
                    if (way < mostBelow(i, j)) {
                        tops[i * TOWNS + j] = way;
                    }
                }
            }
        }

        int mostBelow(int a, int b) {
            return tops[a * TOWNS + b];
        }

        int leastBelow(int a, int b) {
            return -tops[b * TOWNS + a];
        }

        int width(int a, int b) {
            return mostBelow(a, b) - leastBelow(a, b) + 1;
        }

        int widestPair() {
            int pair = 1;
            int widest = 0;
            for (int a = 0; a < TOWNS; a++) {
                for (int b = a + 1; b < TOWNS; b++) {
                    if (width(a, b) > widest) {
                        widest = width(a, b);
                        pair = a * TOWNS + b;
                    }
                }
            }
            return pair;
        }

        int allWidths() {
            int sum = 0;
            for (int a = 0; a < TOWNS; a++) {
                for (int b = a + 1; b < TOWNS; b++) {
                    sum += width(a, b);
                }
            }
            return sum;
        }

        /** In a closed chart BELOW can be every number of its span, so one of a range that meets it is enough. */
        boolean allows(int a, int b, int least, int most) {
            return least <= mostBelow(a, b) && most >= leastBelow(a, b);
        }

        boolean implies(Letter letter, int slip) {
            return leastBelow(letter.from, letter.to) >= letter.least(slip)
                && mostBelow(letter.from, letter.to) <= letter.most(slip);
        }
    }

    /** A SHEET; its numbers are kept as they are told, with their sign. */
    private static final class Sheet {
        int bits = 0;
        int size = 0;
        final int[] numbers = new int[SHEET_MOST];

        boolean isMissing() {
            return bits == 0;
        }

        void renew(int newBits, int newSize) {
            bits = newBits;
            size = newSize;
            Arrays.fill(numbers, 0);
        }

        void put(int i, int v) {
            if (bits == 8) {
                numbers[i] = (byte) v;
            } else if (bits == 16) {
                numbers[i] = (short) v;
            } else {
                numbers[i] = v;
            }
        }

        /** Asked without a sum, which could wrap around. */
        boolean hasRun(int from, int n) {
            return from >= 0 && n >= 0 && n <= size && from <= size - n;
        }

        boolean arePlaces() {
            if (size > TOWNS) {
                return false;
            }
            for (int i = 0; i < size; i++) {
                for (int j = 0; j < i; j++) {
                    if (Math.abs((long) numbers[i] - numbers[j]) > FARTHEST) {
                        return false;
                    }
                }
            }
            return true;
        }

        /** Whether a letter, both towns of which have a place here, doesn't hold. */
        boolean denies(Letter letter, int slip) {
            if (letter.from >= size || letter.to >= size) {
                return false;
            }
            int below = numbers[letter.to] - numbers[letter.from];
            return below < letter.least(slip) || below > letter.most(slip);
        }
    }

    /** THE TAPE, and the reader of the text on it, who looks at one token at a time. */
    private static final class Tape {
        private static final int END = 0;
        private static final int WORD = 1;
        private static final int NUMBER = 2;
        private static final int SEMICOLON = 3;
        private static final int MINUS = 4;
        private static final int NO_TOKEN = 5;

        int size = 0;
        private final int[] bytes = new int[TAPE_MOST];
        private int token = END;
        private int place = 0;
        private int behind = 0;

        void append(int b) {
            if (size < TAPE_MOST) {
                bytes[size] = b;
                size++;
            }
        }

        /** All that the text tells comes to be so in an office: how many items, or -1 less the fault. */
        int readOnto(Office office) {
            behind = 0;
            step();
            for (int items = 1; items <= TAPE_MOST; items++) {
                if (!readItem(office)) {
                    break;
                }
                if (token == END) {
                    return items;
                }
                if (token != SEMICOLON) {
                    break;
                }
                step();
            }
            return -1 - place;
        }

        /** As all that read: false leaves the reader at the token that can't stand there. */
        private boolean readItem(Office office) {
            if (isWord("slip") || isWord("frost")) {
                return readLaw(office);
            }
            int kind = kindTold();
            return kind != NOTHING && office.letters < LETTERS && readLetter(office, kind);
        }

        private boolean readLaw(Office office) {
            boolean ofSlip = isWord("slip");
            step();
            int told = numberTold(LAW_MOST);
            if (told == NOTHING) {
                return false;
            }
            if (ofSlip) {
                office.slip = told;
            } else {
                office.frost = told;
            }
            step();
            return true;
        }

        private boolean readLetter(Office office, int kind) {
            step();
            int from = numberTold(TOWNS - 1);
            if (from == NOTHING) {
                return false;
            }
            step();
            int to = numberTold(TOWNS - 1);
            if (to == NOTHING || to == from) {
                return false;
            }
            step();
            Letter letter = office.rows[office.receive(kind, from, to, 0, 0)];
            return readDays(letter) && readMark(letter) && readStruck(letter);
        }

        private boolean readDays(Letter letter) {
            if (!isWord("days")) {
                return false;
            }
            step();
            boolean minus = token == MINUS;
            if (minus) {
                step();
            }
            int told = numberTold(DAYS_MOST);
            if (told == NOTHING) {
                return false;
            }
            letter.days = minus ? -told : told;
            step();
            return true;
        }

        private boolean readMark(Letter letter) {
            if (!isWord("mark")) {
                return true;
            }
            step();
            int told = numberTold(MARK_MOST);
            if (told == NOTHING) {
                return false;
            }
            letter.mark = told;
            step();
            return true;
        }

        private boolean readStruck(Letter letter) {
            if (isWord("struck")) {
                letter.struck = 1;
                step();
            }
            return true;
        }

        /** Looks at the next token; that of the end stands where the bytes end. */
        private void step() {
            while (behind < size && bytes[behind] == ' ') {
                behind++;
            }
            place = behind;
            if (place >= size) {
                token = END;
                return;
            }
            token = tokenBegunBy(bytes[place]);
            behind++;
            if (token != WORD && token != NUMBER) {
                return;
            }
            while (behind < size && tokenBegunBy(bytes[behind]) == token) {
                behind++;
            }
        }

        private static int tokenBegunBy(int b) {
            if (b >= 'a' && b <= 'z') {
                return WORD;
            }
            if (b >= '0' && b <= '9') {
                return NUMBER;
            }
            if (b == ';') {
                return SEMICOLON;
            }
            return b == '-' ? MINUS : NO_TOKEN;
        }

        private boolean isWord(String spelling) {
            if (token != WORD || behind - place != spelling.length()) {
                return false;
            }
            for (int i = 0; i < spelling.length(); i++) {
                if (spelling.charAt(i) != bytes[place + i]) {
                    return false;
                }
            }
            return true;
        }

        private int kindTold() {
            for (int kind = 0; kind < KINDS; kind++) {
                if (isWord(Letter.kindName(kind))) {
                    return kind;
                }
            }
            return NOTHING;
        }

        /** The number that the token is, or NOTHING if it is none, or one that is too great. */
        private int numberTold(int most) {
            if (token != NUMBER) {
                return NOTHING;
            }
            int told = 0;
            for (int i = place; i < behind; i++) {
                told = told * 10 + bytes[i] - '0';
                // Left at once: a row of digits as long as the tape would wrap around.
                if (told > most) {
                    return NOTHING;
                }
            }
            return told;
        }
    }
}
