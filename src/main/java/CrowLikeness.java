import java.util.Arrays;

/** A plain of wheat whose crows are kept off by likenesses of those who sat for them. */
public final class CrowLikeness {
    private static final int BEYOND = 0;
    private static final int FULL = 1;
    private static final int OTHER_KIND = 2;
    private static final int NONE = 3;
    private static final int STATE = 4;
    private static final int MISSING = 5;
    private static final int SIZE = 6;
    private static final int FINDINGS = 7;
    private static final int FIRST_FINDING = -1000000001;

    private static final int COLUMNS = 8;
    private static final int CELLS = 48;
    private static final int DISTANCES = 13;
    private static final int MOST_SITTERS = 6;
    private static final int MOST_LIKENESSES = 8;
    private static final int MOST_WHEAT = 99;
    private static final int MOST_CROWS = 20;
    private static final int MOST_TEMPER = 30;
    private static final int MOST_FEE = 99;
    private static final int LAST_DAY = 9999;
    private static final int OLDEST = 9999;
    private static final int FEARED = 20;
    private static final int MOUTHFUL = 2;

    private static final int BAILIFF = 1;
    private static final int LAUGHED = 2;
    private static final int DEAD = 3;
    private static final int LADY = 4;
    private static final int STRANGER = 5;
    private static final int KINDS = 6;
    private static final int[] KIND_ABOVE = {-1, 0, 0, 0, LAUGHED, DEAD};

    private static final int LONGEST_LOOK = 60;
    private static final int LONGEST_CHOICE = 20;
    private static final int LONGEST_KEEP = 10;
    private static final int TOLD_FROM = 1000;
    private static final int NO_LIMIT = 1000000;

    private static final int SHEETS = 4;
    private static final int LONGEST_SHEET = 40;

    private final Plain here = new Plain();
    private final Plain kept = new Plain();
    private final Plain trial = new Plain();
    private final Flock flock = new Flock();
    private final Tape tape = new Tape();
    private final Sheet[] sheets = new Sheet[SHEETS];
    private final int[] found = new int[FINDINGS];
    private boolean isKept;

    public CrowLikeness() {
        for (int s = 0; s < SHEETS; s++) {
            sheets[s] = new Sheet();
        }
    }

    // ---- the plain

    public int wheat(int cell, int v) {
        if (!isCell(cell) || !isWithin(v, 0, MOST_WHEAT)) {
            return finding(BEYOND);
        }
        int was = here.wheats[cell];
        here.wheats[cell] = v;
        return was;
    }

    public int cell(int cell, int what) {
        if (!isCell(cell)) {
            return finding(BEYOND);
        }
        switch (what) {
            case 0:
                return here.wheats[cell];
            case 1:
                flock.look(here);
                return TOLD_FROM + flock.fears[cell];
            case 2:
                return here.likenessesAt(cell);
            default:
                return finding(BEYOND);
        }
    }

    public int crows(int v) {
        if (!isWithin(v, 0, MOST_CROWS)) {
            return finding(BEYOND);
        }
        int was = here.crowsADay;
        here.crowsADay = v;
        return was;
    }

    // ---- sitters, likenesses

    public int sitter(int kind) {
        if (!isKind(kind)) {
            return finding(BEYOND);
        }
        if (here.sitters >= MOST_SITTERS) {
            return finding(FULL);
        }
        return here.addSitter(kind);
    }

    public int of(int sitter, int what) {
        if (!isSitter(sitter)) {
            return finding(BEYOND);
        }
        switch (what) {
            case 0:
                return here.kinds[sitter];
            case 1:
                return here.tempers[sitter];
            case 2:
                return here.fees[sitter];
            case 3:
                return here.sinces[sitter];
            case 4:
                return Integer.bitCount(here.likenessesOf(sitter));
            case 5:
                return here.meetings(sitter);
            default:
                return finding(BEYOND);
        }
    }

    public int set(int sitter, int what, int v) {
        if (!isSitter(sitter)) {
            return finding(BEYOND);
        }
        if (what == 1 && isWithin(v, 0, MOST_TEMPER)) {
            return exchange(here.tempers, sitter, v);
        }
        if (what == 2 && isWithin(v, 0, MOST_FEE)) {
            return exchange(here.fees, sitter, v);
        }
        return finding(BEYOND);
    }

    public int turn(int sitter, int kind) {
        if (!isSitter(sitter) || !isKind(kind)) {
            return finding(BEYOND);
        }
        return exchange(here.kinds, sitter, kind);
    }

    public int as(int sitter, int kind) {
        if (!isSitter(sitter) || !isKind(kind)) {
            return finding(BEYOND);
        }
        if (!Kinds.isUnder(here.kinds[sitter], kind)) {
            return finding(OTHER_KIND);
        }
        return here.tempers[sitter];
    }

    public int likeness(int sitter, int cell) {
        if (!isSitter(sitter) || !isCell(cell)) {
            return finding(BEYOND);
        }
        if (here.likenesses >= MOST_LIKENESSES) {
            return finding(FULL);
        }
        return here.addLikeness(sitter, cell);
    }

    public int told(int likeness, int what) {
        if (!isLikeness(likeness)) {
            return finding(BEYOND);
        }
        switch (what) {
            case 0:
                return here.cells[likeness];
            case 1:
                return here.owners[likeness];
            case 2:
                return here.ages[likeness];
            case 3:
                return TOLD_FROM + here.countsFor(likeness);
            case 4:
                return TOLD_FROM + here.scareOf(likeness, 0);
            default:
                return finding(BEYOND);
        }
    }

    public int place(int likeness, int what, int v) {
        if (!isLikeness(likeness)) {
            return finding(BEYOND);
        }
        if (what == 0 && isCell(v)) {
            return exchange(here.cells, likeness, v);
        }
        if (what == 1 && isSitter(v)) {
            return exchange(here.owners, likeness, v);
        }
        if (what == 2 && isWithin(v, 0, OLDEST)) {
            return exchange(here.ages, likeness, v);
        }
        return finding(BEYOND);
    }

    public int scares(int likeness, int distance) {
        if (!isLikeness(likeness) || !isWithin(distance, 0, DISTANCES - 1)) {
            return finding(BEYOND);
        }
        return TOLD_FROM + here.scareOf(likeness, distance);
    }

    // ---- days

    public int lands() {
        flock.look(here);
        int cell = flock.landing(here);
        return cell < 0 ? finding(NONE) : cell;
    }

    public int days(int n) {
        if (!isWithin(n, 1, LONGEST_LOOK)) {
            return finding(BEYOND);
        }
        if (here.day + n > LAST_DAY) {
            return finding(STATE);
        }
        return flock.passDays(here, n, NO_LIMIT);
    }

    public int now(int what) {
        switch (what) {
            case 0:
                return here.day;
            case 1:
                return here.crowsADay;
            case 2:
                return here.wheatOfAll();
            case 3:
                return here.feesDue();
            case 4:
                flock.look(here);
                return flock.fearedCells();
            case 5:
                return here.sittersWhoMeet();
            default:
                return finding(BEYOND);
        }
    }

    public int on(int cell, int n) {
        if (!isCell(cell) || !isWithin(n, 0, LONGEST_LOOK)) {
            return finding(BEYOND);
        }
        eatenAsItIs(n);
        return trial.wheats[cell];
    }

    public int eaten(int n) {
        if (!isWithin(n, 0, LONGEST_LOOK)) {
            return finding(BEYOND);
        }
        return eatenAsItIs(n);
    }

    public int first(int cell) {
        if (!isCell(cell)) {
            return finding(BEYOND);
        }
        trial.become(here);
        flock.look(trial);
        for (int d = 1; d <= LONGEST_LOOK; d++) {
            flock.passDay(trial);
            if (trial.wheats[cell] < here.wheats[cell]) {
                return d;
            }
        }
        return finding(NONE);
    }

    // ---- what is best

    public int spot(int likeness, int n) {
        if (!isLikeness(likeness) || !isWithin(n, 1, LONGEST_CHOICE)) {
            return finding(BEYOND);
        }
        return bestChoice(trial.cells, likeness, CELLS, n);
    }

    public int whose(int likeness, int n) {
        if (!isLikeness(likeness) || !isWithin(n, 1, LONGEST_CHOICE)) {
            return finding(BEYOND);
        }
        return bestChoice(trial.owners, likeness, here.sitters, n);
    }

    public int kind(int sitter, int n) {
        if (!isSitter(sitter) || !isWithin(n, 1, LONGEST_CHOICE)) {
            return finding(BEYOND);
        }
        return bestChoice(trial.kinds, sitter, KINDS, n);
    }

    public int temper(int sitter, int n) {
        if (!isSitter(sitter) || !isWithin(n, 1, LONGEST_CHOICE)) {
            return finding(BEYOND);
        }
        return bestChoice(trial.tempers, sitter, MOST_TEMPER + 1, n);
    }

    public int keep(int n) {
        if (!isWithin(n, 1, LONGEST_KEEP)) {
            return finding(BEYOND);
        }
        int all = here.allLikenesses();
        int allowed = eatenAsItIs(n);
        for (int size = 0; size < here.likenesses; size++) {
            for (int set = 0; set < all; set++) {
                if (Integer.bitCount(set) == size && eatenWith(set, n, allowed + 1) <= allowed) {
                    return set;
                }
            }
        }
        return all;
    }

    public int worth(int n) {
        if (!isWithin(n, 1, LONGEST_CHOICE)) {
            return finding(BEYOND);
        }
        int best = -1;
        int most = eatenAsItIs(n);
        for (int s = 0; s < here.sitters; s++) {
            int others = here.allLikenesses() & ~here.likenessesOf(s);
            int eaten = eatenWith(others, n, NO_LIMIT);
            if (eaten > most) {
                most = eaten;
                best = s;
            }
        }
        return best < 0 ? finding(NONE) : best;
    }

    public int apart(int likeness) {
        if (!isLikeness(likeness)) {
            return finding(BEYOND);
        }
        int owner = here.owners[likeness];
        int from = here.cells[likeness];
        int best = from;
        int fewest = here.meetings(owner);
        int nearest = 0;
        trial.become(here);
        for (int c = 0; c < CELLS; c++) {
            trial.cells[likeness] = c;
            int meetings = trial.meetings(owner);
            int distance = distanceOf(from, c);
            if (meetings < fewest || (meetings == fewest && distance < nearest)) {
                fewest = meetings;
                nearest = distance;
                best = c;
            }
        }
        return best;
    }

    public int swap(int n) {
        if (!isWithin(n, 1, LONGEST_CHOICE)) {
            return finding(BEYOND);
        }
        int best = -1;
        int least = eatenAsItIs(n);
        for (int lesser = 0; lesser < here.likenesses; lesser++) {
            for (int other = lesser + 1; other < here.likenesses; other++) {
                int eaten = eatenSwapped(lesser, other, n, least);
                if (eaten < least) {
                    least = eaten;
                    best = 10 * lesser + other;
                }
            }
        }
        return best < 0 ? finding(NONE) : best;
    }

    // ---- the text

    public int feed(int bytes, int n) {
        if (!isWithin(n, 1, 4)) {
            return finding(BEYOND);
        }
        if (tape.length + n > Tape.LONGEST) {
            return finding(FULL);
        }
        for (int i = n - 1; i >= 0; i--) {
            tape.add((bytes >> (8 * i)) & 255);
        }
        return tape.length;
    }

    public int wipe() {
        int had = tape.length;
        tape.length = 0;
        return had;
    }

    public int plain() {
        // The items come to a trial first, so that a fault behind some of them changes nothing.
        trial.become(here);
        int items = tape.parse(trial);
        tape.length = 0;
        if (items >= 0) {
            here.become(trial);
        }
        return items;
    }

    // ---- sheets

    public int sheet(int s, int bits, int n) {
        if (!isSheet(s) || (bits != 0 && bits != 8 && bits != 16 && bits != 64)) {
            return finding(BEYOND);
        }
        if (n < 0) {
            return finding(SIZE);
        }
        if (n > LONGEST_SHEET) {
            return finding(BEYOND);
        }
        sheets[s].begin(bits, n);
        return sheets[s].size;
    }

    public long write(int s, int i, long v) {
        if (!isSheet(s)) {
            return finding(BEYOND);
        }
        Sheet sheet = sheets[s];
        if (sheet.isMissing()) {
            return finding(MISSING);
        }
        if (!isWithin(i, 0, sheet.size - 1)) {
            return finding(BEYOND);
        }
        long was = sheet.numbers[i];
        sheet.put(i, v);
        return was;
    }

    public int copy(int s, int from, int t, int to, int n) {
        if (!isSheet(s) || !isSheet(t)) {
            return finding(BEYOND);
        }
        Sheet source = sheets[s];
        Sheet target = sheets[t];
        if (source.isMissing() || target.isMissing()) {
            return finding(MISSING);
        }
        if (source.bits != target.bits) {
            return finding(OTHER_KIND);
        }
        if (!source.hasRun(from, n) || !target.hasRun(to, n)) {
            return finding(BEYOND);
        }
        System.arraycopy(source.numbers, from, target.numbers, to, n);
        return n;
    }

    public int lays(int s) {
        if (!isSheet(s)) {
            return finding(BEYOND);
        }
        Sheet sheet = sheets[s];
        if (sheet.isMissing()) {
            return finding(MISSING);
        }
        int came = 0;
        for (int i = 0; i < sheet.size; i++) {
            long v = sheet.numbers[i];
            if (v >= 0 && v <= MOST_WHEAT) {
                here.wheats[i] = (int) v;
                came++;
            }
        }
        return came;
    }

    public int book(int s) {
        if (!isSheet(s)) {
            return finding(BEYOND);
        }
        Sheet sheet = sheets[s];
        if (sheet.isMissing()) {
            return finding(MISSING);
        }
        trial.become(here);
        flock.look(trial);
        int wheat = trial.wheatOfAll();
        for (int i = 0; i < sheet.size; i++) {
            sheet.put(i, wheat);
            wheat -= flock.passDay(trial);
        }
        return sheet.size;
    }

    public int read(int s, int likeness) {
        if (!isSheet(s)) {
            return finding(BEYOND);
        }
        if (sheets[s].isMissing()) {
            return finding(MISSING);
        }
        if (!isLikeness(likeness)) {
            return finding(BEYOND);
        }
        int pairs = 0;
        for (int owner = 0; owner < here.sitters; owner++) {
            for (int c = 0; c < CELLS; c++) {
                trial.become(here);
                trial.owners[likeness] = owner;
                trial.cells[likeness] = c;
                if (trialGoesAs(sheets[s])) {
                    pairs++;
                }
            }
        }
        return pairs;
    }

    // ---- images

    public int image() {
        kept.become(here);
        isKept = true;
        return 1;
    }

    public int undo() {
        if (!isKept) {
            return finding(NONE);
        }
        here.become(kept);
        return here.sitters;
    }

    public int tear() {
        int was = isKept ? 1 : 0;
        isKept = false;
        return was;
    }

    public int count(int what) {
        switch (what) {
            case 0:
                return here.sitters;
            case 1:
                return tape.length;
            case 2:
                return here.likenesses;
            case 3:
                return here.temperOfAll();
            default:
                return finding(BEYOND);
        }
    }

    public int status(int which) {
        if (which == -1) {
            return sumOf(found, FINDINGS);
        }
        if (!isWithin(which, 0, FINDINGS - 1)) {
            return finding(BEYOND);
        }
        return found[which];
    }

    // ---- what the calls share

    private int finding(int which) {
        found[which]++;
        return FIRST_FINDING - which;
    }

    private boolean isSitter(int sitter) {
        return isWithin(sitter, 0, here.sitters - 1);
    }

    private boolean isLikeness(int likeness) {
        return isWithin(likeness, 0, here.likenesses - 1);
    }

    /** Leaves in the trial what has become of the plain by then. */
    private int eatenAsItIs(int n) {
        trial.become(here);
        return flock.passDays(trial, n, NO_LIMIT);
    }

    private int eatenWith(int likenesses, int n, int enough) {
        trial.become(here);
        trial.keepOnly(likenesses);
        return flock.passDays(trial, n, enough);
    }

    private int eatenSwapped(int lesser, int other, int n, int enough) {
        trial.become(here);
        trial.cells[lesser] = here.cells[other];
        trial.cells[other] = here.cells[lesser];
        return flock.passDays(trial, n, enough);
    }

    /** The least of the choices with which, at a place in a row of the trial, least is eaten. */
    private int bestChoice(int[] row, int at, int choices, int n) {
        int best = 0;
        int least = NO_LIMIT;
        for (int v = 0; v < choices && least > 0; v++) {
            trial.become(here);
            row[at] = v;
            int eaten = flock.passDays(trial, n, least);
            if (eaten < least) {
                least = eaten;
                best = v;
            }
        }
        return best;
    }

    private boolean trialGoesAs(Sheet sheet) {
        flock.look(trial);
        int wheat = trial.wheatOfAll();
        for (int i = 0; i < sheet.size; i++) {
            if (sheet.numbers[i] != wheat) {
                return false;
            }
            wheat -= flock.passDay(trial);
        }
        return true;
    }

    private static boolean isWithin(int v, int least, int most) {
        return v >= least && v <= most;
    }

    private static boolean isCell(int cell) {
        return isWithin(cell, 0, CELLS - 1);
    }

    private static boolean isKind(int kind) {
        return isWithin(kind, 0, KINDS - 1);
    }

    private static boolean isSheet(int s) {
        return isWithin(s, 0, SHEETS - 1);
    }

    private static int exchange(int[] row, int at, int v) {
        int was = row[at];
        row[at] = v;
        return was;
    }

    private static int sumOf(int[] row, int n) {
        int sum = 0;
        for (int i = 0; i < n; i++) {
            sum += row[i];
        }
        return sum;
    }

    private static int distanceOf(int one, int other) {
        int rows = Math.abs(one / COLUMNS - other / COLUMNS);
        int columns = Math.abs(one % COLUMNS - other % COLUMNS);
        return rows + columns;
    }

    /** What each kind of sitter makes of a temper and of a distance. */
    private static final class Kinds {
        private static final int BAILIFF_MORE = 5;
        private static final int DEAD_KEEP = 365;
        private static final int STRANGER_KEEPS = 7;

        private Kinds() {
        }

        static boolean isUnder(int kind, int above) {
            int k = kind;
            for (int step = 0; step < KINDS && k >= 0; step++) {
                if (k == above) {
                    return true;
                }
                k = KIND_ABOVE[k];
            }
            return false;
        }

        static int fade(int kind, int temper, int age) {
            int asSitter = Math.max(0, temper - age / 4);
            int asDead = age < DEAD_KEEP ? temper : 0;
            switch (kind) {
                case BAILIFF:
                    return asSitter + BAILIFF_MORE;
                case LAUGHED:
                    return asSitter / 2;
                case DEAD:
                    return asDead;
                case LADY:
                    return -(asSitter / 2);
                case STRANGER:
                    return age < STRANGER_KEEPS ? asDead : 0;
                default:
                    return asSitter;
            }
        }

        static int scare(int kind, int fade, int distance) {
            int asSitter = Math.max(0, fade - 3 * distance);
            switch (kind) {
                case BAILIFF:
                    return Math.max(0, fade - distance);
                case LAUGHED:
                    return Math.max(0, asSitter - 1);
                case LADY:
                    return Math.min(0, fade + 2 * distance);
                case STRANGER:
                    return distance <= 1 ? 2 * asSitter : asSitter;
                default:
                    return asSitter;
            }
        }
    }

    /** All that section 1 of the document tells, but for the tape. */
    private static final class Plain {
        private static final int FIRST_WHEAT = 10;
        private static final int FIRST_CROWS = 3;
        private static final int FIRST_TEMPER = 10;
        private static final int FIRST_FEE = 5;

        final int[] wheats = new int[CELLS];
        int crowsADay = FIRST_CROWS;
        int day;

        int sitters;
        final int[] kinds = new int[MOST_SITTERS];
        final int[] tempers = new int[MOST_SITTERS];
        final int[] fees = new int[MOST_SITTERS];
        final int[] sinces = new int[MOST_SITTERS];

        int likenesses;
        final int[] cells = new int[MOST_LIKENESSES];
        final int[] owners = new int[MOST_LIKENESSES];
        final int[] ages = new int[MOST_LIKENESSES];

        Plain() {
            Arrays.fill(wheats, FIRST_WHEAT);
        }

        void become(Plain other) {
            System.arraycopy(other.wheats, 0, wheats, 0, CELLS);
            crowsADay = other.crowsADay;
            day = other.day;
            sitters = other.sitters;
            System.arraycopy(other.kinds, 0, kinds, 0, sitters);
            System.arraycopy(other.tempers, 0, tempers, 0, sitters);
            System.arraycopy(other.fees, 0, fees, 0, sitters);
            System.arraycopy(other.sinces, 0, sinces, 0, sitters);
            likenesses = other.likenesses;
            System.arraycopy(other.cells, 0, cells, 0, likenesses);
            System.arraycopy(other.owners, 0, owners, 0, likenesses);
            System.arraycopy(other.ages, 0, ages, 0, likenesses);
        }

        /** Only where fewer than the most sitters are there. */
        int addSitter(int kind) {
            kinds[sitters] = kind;
            tempers[sitters] = FIRST_TEMPER;
            fees[sitters] = FIRST_FEE;
            sinces[sitters] = day;
            sitters++;
            return sitters - 1;
        }

        /** Only where fewer than the most likenesses are there. */
        int addLikeness(int owner, int cell) {
            cells[likenesses] = cell;
            owners[likenesses] = owner;
            ages[likenesses] = 0;
            likenesses++;
            return likenesses - 1;
        }

        void keepOnly(int set) {
            int stay = 0;
            for (int l = 0; l < likenesses; l++) {
                if ((set >> l & 1) == 1) {
                    cells[stay] = cells[l];
                    owners[stay] = owners[l];
                    ages[stay] = ages[l];
                    stay++;
                }
            }
            likenesses = stay;
        }

        int allLikenesses() {
            return (1 << likenesses) - 1;
        }

        int likenessesAt(int cell) {
            return placesOf(cell, cells);
        }

        int likenessesOf(int owner) {
            return placesOf(owner, owners);
        }

        private int placesOf(int v, int[] row) {
            int set = 0;
            for (int l = 0; l < likenesses; l++) {
                if (row[l] == v) {
                    set |= 1 << l;
                }
            }
            return set;
        }

        int meetings(int owner) {
            int pairs = 0;
            for (int one = 0; one < likenesses; one++) {
                for (int other = one + 1; other < likenesses; other++) {
                    if (owners[one] == owner && owners[other] == owner && isMeeting(one, other)) {
                        pairs++;
                    }
                }
            }
            return pairs;
        }

        private boolean isMeeting(int one, int other) {
            return cells[one] / COLUMNS == cells[other] / COLUMNS
                || cells[one] % COLUMNS == cells[other] % COLUMNS;
        }

        int sittersWhoMeet() {
            int set = 0;
            for (int s = 0; s < sitters; s++) {
                if (meetings(s) > 0) {
                    set |= 1 << s;
                }
            }
            return set;
        }

        int feesDue() {
            int sum = 0;
            for (int s = 0; s < sitters; s++) {
                if (likenessesOf(s) != 0) {
                    sum += fees[s];
                }
            }
            return sum;
        }

        int wheatOfAll() {
            return sumOf(wheats, CELLS);
        }

        int temperOfAll() {
            return sumOf(tempers, sitters);
        }

        int countsFor(int likeness) {
            int owner = owners[likeness];
            return Kinds.fade(kinds[owner], tempers[owner], ages[likeness]);
        }

        int scareOf(int likeness, int distance) {
            int owner = owners[likeness];
            return Kinds.scare(kinds[owner], countsFor(likeness), distance);
        }
    }

    /** The crows of a plain: what they fear there, where they land, and the days that they come on. */
    private static final class Flock {
        private static final int NOT_THERE = -1000000;

        final int[] fears = new int[CELLS];
        private final int[] counts = new int[MOST_LIKENESSES];
        private final int[] scaresByDistance = new int[MOST_LIKENESSES * DISTANCES];
        private final int[] mostByOwner = new int[MOST_SITTERS];
        private final int[] meetings = new int[MOST_SITTERS];

        /** Must come before the other calls whenever the plain is another one or was changed from outside. */
        void look(Plain plain) {
            for (int l = 0; l < plain.likenesses; l++) {
                takeScares(plain, l, plain.countsFor(l));
            }
            for (int s = 0; s < plain.sitters; s++) {
                meetings[s] = plain.meetings(s);
            }
            weighFears(plain);
        }

        int landing(Plain plain) {
            int best = -1;
            int most = 0;
            for (int c = 0; c < CELLS; c++) {
                if (plain.wheats[c] > 0 && fears[c] < FEARED) {
                    int draw = plain.wheats[c] - fears[c];
                    if (best < 0 || draw > most) {
                        most = draw;
                        best = c;
                    }
                }
            }
            return best;
        }

        int fearedCells() {
            int feared = 0;
            for (int c = 0; c < CELLS; c++) {
                if (fears[c] >= FEARED) {
                    feared++;
                }
            }
            return feared;
        }

        /** Stops early once enough is eaten, for those who only ask whether it is less than that. */
        int passDays(Plain plain, int n, int enough) {
            look(plain);
            int eaten = 0;
            for (int d = 0; d < n && eaten < enough; d++) {
                eaten += passDay(plain);
            }
            return eaten;
        }

        int passDay(Plain plain) {
            if (renewScares(plain)) {
                weighFears(plain);
            }
            int eaten = 0;
            for (int crow = 0; crow < plain.crowsADay; crow++) {
                int cell = landing(plain);
                if (cell < 0) {
                    break;
                }
                int meal = Math.min(MOUTHFUL, plain.wheats[cell]);
                plain.wheats[cell] -= meal;
                eaten += meal;
            }
            growOlder(plain);
            return eaten;
        }

        /** Whether a likeness counts for something else by now: on most days none does, and fears stay. */
        private boolean renewScares(Plain plain) {
            boolean isOther = false;
            for (int l = 0; l < plain.likenesses; l++) {
                int count = plain.countsFor(l);
                if (count != counts[l]) {
                    takeScares(plain, l, count);
                    isOther = true;
                }
            }
            return isOther;
        }

        private void takeScares(Plain plain, int likeness, int count) {
            counts[likeness] = count;
            int kind = plain.kinds[plain.owners[likeness]];
            for (int d = 0; d < DISTANCES; d++) {
                scaresByDistance[likeness * DISTANCES + d] = Kinds.scare(kind, count, d);
            }
        }

        private void weighFears(Plain plain) {
            for (int c = 0; c < CELLS; c++) {
                fears[c] = fearAt(plain, c);
            }
        }

        private int fearAt(Plain plain, int cell) {
            Arrays.fill(mostByOwner, NOT_THERE);
            for (int l = 0; l < plain.likenesses; l++) {
                int owner = plain.owners[l];
                int scare = scaresByDistance[l * DISTANCES + distanceOf(plain.cells[l], cell)];
                mostByOwner[owner] = Math.max(mostByOwner[owner], scare);
            }
            int fear = 0;
            for (int s = 0; s < plain.sitters; s++) {
                if (mostByOwner[s] != NOT_THERE) {
                    fear += mostByOwner[s];
                }
            }
            return fear;
        }

        private void growOlder(Plain plain) {
            for (int s = 0; s < plain.sitters; s++) {
                plain.tempers[s] = Math.max(0, plain.tempers[s] - meetings[s]);
            }
            for (int l = 0; l < plain.likenesses; l++) {
                plain.ages[l] = Math.min(OLDEST, plain.ages[l] + 1);
            }
            plain.day++;
        }
    }

    /** The tape, and the reading of it as the text of a plain. */
    private static final class Tape {
        private static final int LONGEST = 120;
        private static final int LARGEST_NUMBER = 999;
        private static final int END = 0;
        private static final int WORD = 1;
        private static final int NUMBER = 2;
        private static final int SIGN = 3;
        private static final int NO_TOKEN = 4;

        private final int[] bytes = new int[LONGEST];
        int length;
        private int token;
        private int start;
        private int next;
        private int number;
        private int taken;

        /** Only where the tape has room. */
        void add(int b) {
            bytes[length] = b;
            length++;
        }

        /** How many items came to the plain, or -1 less the place of the fault. */
        int parse(Plain plain) {
            next = 0;
            advance();
            for (int items = 1; items <= LONGEST; items++) {
                if (!takeItem(plain)) {
                    return -1 - start;
                }
                if (token == END) {
                    return items;
                }
                if (token != SIGN) {
                    return -1 - start;
                }
                advance();
            }
            return -1 - start;
        }

        // Each of those below that answers false leaves the token that can't stand there as the one at hand.

        private boolean takeItem(Plain plain) {
            int kind = kindNamed();
            if (kind >= 0) {
                return takeSitter(plain, kind);
            }
            if (isWord("likeness")) {
                return takeLikeness(plain);
            }
            if (isWord("wheat")) {
                return takeWheat(plain);
            }
            return isWord("crows") && takeCrows(plain);
        }

        private boolean takeSitter(Plain plain, int kind) {
            if (plain.sitters >= MOST_SITTERS) {
                return false;
            }
            int sitter = plain.addSitter(kind);
            advance();
            if (takeWord("temper")) {
                if (!takeNumber(0, MOST_TEMPER)) {
                    return false;
                }
                plain.tempers[sitter] = taken;
            }
            if (takeWord("fee")) {
                if (!takeNumber(0, MOST_FEE)) {
                    return false;
                }
                plain.fees[sitter] = taken;
            }
            return true;
        }

        private boolean takeLikeness(Plain plain) {
            if (plain.likenesses >= MOST_LIKENESSES) {
                return false;
            }
            advance();
            if (!takeNumber(0, plain.sitters - 1)) {
                return false;
            }
            int owner = taken;
            if (!takeWord("at") || !takeNumber(0, CELLS - 1)) {
                return false;
            }
            plain.addLikeness(owner, taken);
            return true;
        }

        private boolean takeWheat(Plain plain) {
            advance();
            if (!takeNumber(0, CELLS - 1)) {
                return false;
            }
            int from = taken;
            if (!takeNumber(0, MOST_WHEAT)) {
                return false;
            }
            int wheat = taken;
            int to = from;
            if (takeWord("to")) {
                if (!takeNumber(from, CELLS - 1)) {
                    return false;
                }
                to = taken;
            }
            for (int c = from; c <= to; c++) {
                plain.wheats[c] = wheat;
            }
            return true;
        }

        private boolean takeCrows(Plain plain) {
            advance();
            if (!takeNumber(0, MOST_CROWS)) {
                return false;
            }
            plain.crowsADay = taken;
            return true;
        }

        private boolean takeWord(String word) {
            if (!isWord(word)) {
                return false;
            }
            advance();
            return true;
        }

        private boolean takeNumber(int least, int most) {
            if (token != NUMBER || !isWithin(number, least, most)) {
                return false;
            }
            taken = number;
            advance();
            return true;
        }

        private int kindNamed() {
            for (int k = 0; k < KINDS; k++) {
                if (isWord(nameOf(k))) {
                    return k;
                }
            }
            return -1;
        }

        private static String nameOf(int kind) {
            switch (kind) {
                case BAILIFF:
                    return "bailiff";
                case LAUGHED:
                    return "laughed";
                case DEAD:
                    return "dead";
                case LADY:
                    return "lady";
                case STRANGER:
                    return "stranger";
                default:
                    return "sitter";
            }
        }

        private boolean isWord(String word) {
            if (token != WORD || next - start != word.length()) {
                return false;
            }
            for (int i = 0; i < word.length(); i++) {
                if (bytes[start + i] != word.charAt(i)) {
                    return false;
                }
            }
            return true;
        }

        private void advance() {
            while (next < length && bytes[next] == ' ') {
                next++;
            }
            start = next;
            if (next >= length) {
                token = END;
            } else if (isLetter(bytes[next])) {
                token = WORD;
                passLetters();
            } else if (isDigit(bytes[next])) {
                token = NUMBER;
                passDigits();
            } else {
                token = bytes[next] == ';' ? SIGN : NO_TOKEN;
                next++;
            }
        }

        private void passLetters() {
            while (next < length && isLetter(bytes[next])) {
                next++;
            }
        }

        private void passDigits() {
            number = 0;
            while (next < length && isDigit(bytes[next])) {
                // Held just above what may be, as a long row of digits would wrap around.
                number = Math.min(LARGEST_NUMBER + 1, number * 10 + bytes[next] - '0');
                next++;
            }
        }

        private static boolean isLetter(int b) {
            return b >= 'a' && b <= 'z';
        }

        private static boolean isDigit(int b) {
            return b >= '0' && b <= '9';
        }
    }

    /** A row of numbers of as many bits, or a missing one. */
    private static final class Sheet {
        final long[] numbers = new long[LONGEST_SHEET];
        int bits;
        int size;

        /** With no bits it is missing. */
        void begin(int newBits, int n) {
            bits = newBits;
            size = newBits == 0 ? 0 : n;
            Arrays.fill(numbers, 0L);
        }

        boolean isMissing() {
            return bits == 0;
        }

        boolean hasRun(int from, int n) {
            return from >= 0 && n >= 0 && from <= size && n <= size - from;
        }

        void put(int i, long v) {
            numbers[i] = cut(v);
        }

        private long cut(long v) {
            switch (bits) {
                case 8:
                    return (byte) v;
                case 16:
                    return (short) v;
                default:
                    return v;
            }
        }
    }
}
