import java.util.Arrays;

/** The chair by the window: who sits where in a room, how well, and how all of them had best sit. */
public final class WindowChairs {

    private static final int FIRST_FINDING = -1000000001;
    private static final int BEYOND = 0;
    private static final int FULL = 1;
    private static final int KIND = 2;
    private static final int NONE = 3;
    private static final int STATE = 4;
    private static final int MISSING = 5;
    private static final int SIZE = 6;
    private static final int FINDINGS = 7;

    private static final int CHAIRS = 8;
    private static final int TROLLEY = 7;
    private static final int VIEW_MOST = 20;
    private static final int DRAUGHT_MOST = 9;
    private static final int NOBODY = -1;
    private static final int STANDS = -1;
    private static final int NO_CLAIM = -1;

    private static final int PEOPLE_MOST = 8;
    private static final int YEARS_MOST = 99;
    private static final int GAP_MOST = 9999;

    private static final int GUEST = 0;
    private static final int OLD = 1;
    private static final int TALKER = 2;
    private static final int DEAF = 3;
    private static final int QUEEN = 4;
    private static final int SLEEPER = 5;
    private static final int KINDS = 6;
    private static final int[] KIND_ABOVE = {-1, GUEST, GUEST, GUEST, OLD, DEAF};

    private static final int HOUR_MOST = 99999;
    private static final int DAY = 24;
    private static final int SUN_FROM = 10;
    private static final int SUN_TO = 14;
    private static final int FAR_ON = 60;
    private static final int NEAR_ON = 30;

    private static final int STANDING_WELL = -1000;
    private static final int WELL_BASE = 1000;
    private static final int PEACE_BASE = 10000;
    private static final int BEST_MOST = 6;

    private static final int TAPE_MOST = 120;
    private static final int FEED_MOST = 4;
    private static final int NUMBER_MOST = 999;
    private static final int END = 0;
    private static final int WORD = 1;
    private static final int NUMBER = 2;
    private static final int SIGN = 3;
    private static final int UNKNOWN = 4;

    private static final int SHEETS = 4;
    private static final int SHEET_MOST = 40;

    private final Room here;
    // What goes on, or is only tried, goes on in this room, so that nothing changes here.
    private final Room ahead;
    private final Room kept;
    private boolean isKept;
    private final Text text;
    private final Sheet[] sheets;
    private final int[] findings;
    private final int[] sitting;

    public WindowChairs() {
        here = new Room();
        ahead = new Room();
        kept = new Room();
        isKept = false;
        text = new Text();
        sheets = new Sheet[SHEETS];
        for (int s = 0; s < SHEETS; s++) {
            sheets[s] = new Sheet();
        }
        findings = new int[FINDINGS];
        sitting = new int[PEOPLE_MOST];
    }

    // ---- chairs

    public int chair(int chair, int what, int v) {
        if (!isChair(chair) || !isWithin(what, 0, 1)) {
            return finding(BEYOND);
        }
        int[] row = what == 0 ? here.views : here.draughts;
        if (!isWithin(v, 0, what == 0 ? VIEW_MOST : DRAUGHT_MOST)) {
            return finding(BEYOND);
        }
        int was = row[chair];
        row[chair] = v;
        return was;
    }

    public int chairOf(int chair, int what) {
        if (!isChair(chair)) {
            return finding(BEYOND);
        }
        switch (what) {
            case 0:
                return here.views[chair];
            case 1:
                return here.draughts[chair];
            case 2:
                return here.sitters[chair];
            default:
                return finding(BEYOND);
        }
    }

    // ---- people

    public int person(int kind) {
        if (!isKind(kind)) {
            return finding(BEYOND);
        }
        if (here.people >= PEOPLE_MOST) {
            return finding(FULL);
        }
        return here.enter(kind);
    }

    public int of(int person, int what) {
        if (!isThere(person)) {
            return finding(BEYOND);
        }
        switch (what) {
            case 0:
                return here.kinds[person];
            case 1:
                return here.ages[person];
            case 2:
                return here.claims[person];
            case 3:
                return here.quarrels[person];
            case 4:
                return here.gaps[person];
            case 5:
                return here.seats[person];
            case 6:
                return here.givesUp(person);
            default:
                return finding(BEYOND);
        }
    }

    public int set(int person, int what, int v) {
        if (!isThere(person)) {
            return finding(BEYOND);
        }
        switch (what) {
            case 1:
                return put(here.ages, person, v, 0, YEARS_MOST);
            case 2:
                return put(here.claims, person, v, NO_CLAIM, CHAIRS - 1);
            case 4:
                return put(here.gaps, person, v, 0, GAP_MOST);
            default:
                return finding(BEYOND);
        }
    }

    public int turn(int person, int kind) {
        if (!isThere(person)) {
            return finding(BEYOND);
        }
        return put(here.kinds, person, kind, 0, KINDS - 1);
    }

    public int as(int person, int kind) {
        if (!isThere(person) || !isKind(kind)) {
            return finding(BEYOND);
        }
        if (!isOfKind(here.kinds[person], kind)) {
            return finding(KIND);
        }
        return here.ages[person];
    }

    public int quarrel(int person, int other, int v) {
        if (!areTwo(person, other) || !isWithin(v, 0, 1)) {
            return finding(BEYOND);
        }
        int was = here.areAtOdds(person, other) ? 1 : 0;
        here.putAtOdds(person, other, v == 1);
        return was;
    }

    public int sit(int person, int chair) {
        if (!isThere(person) || !isWithin(chair, STANDS, CHAIRS - 1)) {
            return finding(BEYOND);
        }
        if (chair >= 0 && here.sitters[chair] >= 0 && here.sitters[chair] != person) {
            return finding(STATE);
        }
        int was = here.seats[person];
        here.seat(person, chair);
        return was;
    }

    public int change(int person, int other) {
        if (!areTwo(person, other)) {
            return finding(BEYOND);
        }
        here.swap(person, other);
        return 1;
    }

    public int well(int person, int chair) {
        if (!isThere(person) || !isChair(chair)) {
            return finding(BEYOND);
        }
        return WELL_BASE + here.howWell(person, chair);
    }

    // ---- hours

    public int hours(int n) {
        if (!isWithin(n, 1, FAR_ON)) {
            return finding(BEYOND);
        }
        if (here.hour + n > HOUR_MOST) {
            return finding(STATE);
        }
        return here.pass(n);
    }

    public int now(int what) {
        switch (what) {
            case 0:
                return here.hour;
            case 1:
                return here.hour % DAY;
            case 2:
                return here.hasSun() ? 1 : 0;
            case 3:
                return here.whoSits();
            case 4:
                return PEACE_BASE + here.together();
            case 5:
                return here.emptyChairs();
            default:
                return finding(BEYOND);
        }
    }

    public int on(int person, int n, int what) {
        if (!isThere(person) || !isWithin(n, 0, FAR_ON) || !isWithin(what, 0, 1)) {
            return finding(BEYOND);
        }
        ahead.become(here);
        ahead.pass(n);
        return what == 0 ? ahead.seats[person] : ahead.gaps[person];
    }

    public int peace(int n) {
        if (!isWithin(n, 0, FAR_ON)) {
            return finding(BEYOND);
        }
        ahead.become(here);
        ahead.pass(n);
        return PEACE_BASE + ahead.together();
    }

    public int settles() {
        ahead.become(here);
        for (int n = 0; n <= FAR_ON; n++) {
            if (ahead.passOne() == 0) {
                return n;
            }
        }
        return finding(NONE);
    }

    public int gets(int person, int chair) {
        if (!isThere(person) || !isChair(chair)) {
            return finding(BEYOND);
        }
        ahead.become(here);
        for (int n = 0; n <= FAR_ON; n++) {
            if (ahead.seats[person] == chair) {
                return n;
            }
            ahead.passOne();
        }
        return finding(NONE);
    }

    // ---- what is best

    public int best() {
        int n = 0;
        for (int p = 0; p < here.people; p++) {
            if (here.seats[p] >= 0) {
                sitting[n] = p;
                n++;
            }
        }
        if (n > BEST_MOST) {
            return finding(SIZE);
        }
        ahead.become(here);
        return PEACE_BASE + mostPeace(ahead, sitting, 0, n);
    }

    public int mend(int n) {
        if (!isWithin(n, 0, NEAR_ON)) {
            return finding(BEYOND);
        }
        ahead.become(here);
        ahead.pass(n);
        int most = ahead.together();
        int two = -1;
        for (int p = 0; p < here.people; p++) {
            for (int q = p + 1; q < here.people; q++) {
                if (here.areAtOdds(p, q)) {
                    ahead.become(here);
                    ahead.putAtOdds(p, q, false);
                    ahead.pass(n);
                    if (ahead.together() > most) {
                        most = ahead.together();
                        two = 10 * p + q;
                    }
                }
            }
        }
        return two < 0 ? finding(NONE) : two;
    }

    public int kind(int person, int n) {
        if (!isThere(person) || !isWithin(n, 0, NEAR_ON)) {
            return finding(BEYOND);
        }
        int best = GUEST;
        int most = 0;
        for (int k = GUEST; k < KINDS; k++) {
            ahead.become(here);
            ahead.kinds[person] = k;
            ahead.pass(n);
            int well = ahead.howWellNow(person);
            if (k == GUEST || well > most) {
                best = k;
                most = well;
            }
        }
        return best;
    }

    public int claim(int person, int n) {
        if (!isThere(person) || !isWithin(n, 0, NEAR_ON)) {
            return finding(BEYOND);
        }
        int best = NO_CLAIM;
        int most = 0;
        for (int c = NO_CLAIM; c < CHAIRS; c++) {
            ahead.become(here);
            ahead.claims[person] = c;
            ahead.pass(n);
            int well = ahead.howWellNow(person);
            if (c == NO_CLAIM || well > most) {
                best = c;
                most = well;
            }
        }
        return 1 + best;
    }

    public int years(int person, int chair, int n) {
        if (!isThere(person) || !isChair(chair) || !isWithin(n, 1, NEAR_ON)) {
            return finding(BEYOND);
        }
        for (int y = 0; y <= YEARS_MOST; y++) {
            // YEARS count only by their fourths and tenths, so those between go as the last one did.
            if (y % 4 == 0 || y % 10 == 0) {
                ahead.become(here);
                ahead.ages[person] = y;
                ahead.pass(n);
                if (ahead.seats[person] == chair) {
                    return y;
                }
            }
        }
        return finding(NONE);
    }

    public int always(int n) {
        if (!isWithin(n, 0, FAR_ON)) {
            return finding(BEYOND);
        }
        if (here.people == 0) {
            return finding(NONE);
        }
        ahead.become(here);
        ahead.pass(n);
        int most = 0;
        for (int p = 1; p < ahead.people; p++) {
            if (ahead.gaps[p] > ahead.gaps[most]) {
                most = p;
            }
        }
        return most;
    }

    public int beside(int person) {
        if (!isThere(person)) {
            return finding(BEYOND);
        }
        int best = NOBODY;
        int most = 0;
        for (int q = 0; q < here.people; q++) {
            if (q != person && here.seats[q] >= 0) {
                for (int c = here.seats[q] - 1; c <= here.seats[q] + 1; c += 2) {
                    if (here.isFreeFor(person, c)
                            && (best == NOBODY || here.howWell(person, c) > most)) {
                        best = q;
                        most = here.howWell(person, c);
                    }
                }
            }
        }
        return best == NOBODY ? finding(NONE) : best;
    }

    // ---- the text

    public int feed(int bytes, int n) {
        if (!isWithin(n, 1, FEED_MOST)) {
            return finding(BEYOND);
        }
        if (text.length + n > TAPE_MOST) {
            return finding(FULL);
        }
        for (int i = n - 1; i >= 0; i--) {
            text.append((bytes >>> (8 * i)) & 255);
        }
        return text.length;
    }

    public int wipe() {
        int had = text.length;
        text.length = 0;
        return had;
    }

    public int room() {
        // Items that stand before a fault must leave no trace, so they come to the other room first.
        ahead.become(here);
        boolean whole = text.comesTo(ahead);
        text.length = 0;
        if (!whole) {
            return -1 - text.place;
        }
        here.become(ahead);
        return text.items;
    }

    // ---- sheets

    public int sheet(int s, int bits, int n) {
        if (!isSheet(s) || (bits != 0 && bits != 8 && bits != 16 && bits != 64)) {
            return finding(BEYOND);
        }
        if (n < 0) {
            return finding(SIZE);
        }
        if (n > SHEET_MOST) {
            return finding(BEYOND);
        }
        return sheets[s].renew(bits, n);
    }

    public long write(int s, int i, long v) {
        if (!isSheet(s)) {
            return finding(BEYOND);
        }
        Sheet sheet = sheets[s];
        if (sheet.isMissing()) {
            return finding(MISSING);
        }
        if (!isWithin(i, 0, sheet.size - 1)) {
            return finding(BEYOND);
        }
        long was = sheet.numbers[i];
        sheet.numbers[i] = sheet.cut(v);
        return was;
    }

    public int copy(int s, int from, int t, int to, int n) {
        if (!isSheet(s) || !isSheet(t)) {
            return finding(BEYOND);
        }
        Sheet source = sheets[s];
        Sheet target = sheets[t];
        if (source.isMissing() || target.isMissing()) {
            return finding(MISSING);
        }
        if (source.bits != target.bits) {
            return finding(KIND);
        }
        if (!source.has(from, n) || !target.has(to, n)) {
            return finding(BEYOND);
        }
        System.arraycopy(source.numbers, from, target.numbers, to, n);
        return n;
    }

    public int lays(int s) {
        if (!isSheet(s)) {
            return finding(BEYOND);
        }
        Sheet sheet = sheets[s];
        if (sheet.isMissing()) {
            return finding(MISSING);
        }
        int came = 0;
        for (int c = 0; c < CHAIRS && c < sheet.size; c++) {
            long v = sheet.numbers[c];
            if (v >= 0 && v <= VIEW_MOST) {
                here.views[c] = (int) v;
                came++;
            }
        }
        return came;
    }

    public int book(int s, int person) {
        if (!isSheet(s)) {
            return finding(BEYOND);
        }
        Sheet sheet = sheets[s];
        if (sheet.isMissing()) {
            return finding(MISSING);
        }
        if (!isThere(person)) {
            return finding(BEYOND);
        }
        ahead.become(here);
        for (int i = 0; i < sheet.size; i++) {
            sheet.numbers[i] = ahead.seats[person];
            ahead.passOne();
        }
        return sheet.size;
    }

    public int read(int s, int person) {
        if (!isSheet(s)) {
            return finding(BEYOND);
        }
        Sheet sheet = sheets[s];
        if (sheet.isMissing()) {
            return finding(MISSING);
        }
        if (!isThere(person)) {
            return finding(BEYOND);
        }
        int pairs = 0;
        for (int k = GUEST; k < KINDS; k++) {
            for (int c = NO_CLAIM; c < CHAIRS; c++) {
                ahead.become(here);
                ahead.kinds[person] = k;
                ahead.claims[person] = c;
                if (goesAsTold(sheet, person)) {
                    pairs++;
                }
            }
        }
        return pairs;
    }

    // ---- images

    public int image() {
        kept.become(here);
        isKept = true;
        return 1;
    }

    public int undo() {
        if (!isKept) {
            return finding(NONE);
        }
        here.become(kept);
        return here.people;
    }

    public int tear() {
        int was = isKept ? 1 : 0;
        isKept = false;
        return was;
    }

    public int count(int what) {
        switch (what) {
            case 0:
                return here.people;
            case 1:
                return text.length;
            case 2:
                return Integer.bitCount(here.whoSits());
            case 3:
                return here.pairsAtOdds();
            default:
                return finding(BEYOND);
        }
    }

    public int status(int which) {
        if (!isWithin(which, -1, FINDINGS - 1)) {
            return finding(BEYOND);
        }
        if (which >= 0) {
            return findings[which];
        }
        int all = 0;
        for (int f = 0; f < FINDINGS; f++) {
            all += findings[f];
        }
        return all;
    }

    // ---- what the acts share

    private int finding(int which) {
        findings[which]++;
        return FIRST_FINDING - which;
    }

    private int put(int[] row, int person, int v, int least, int most) {
        if (!isWithin(v, least, most)) {
            return finding(BEYOND);
        }
        int was = row[person];
        row[person] = v;
        return was;
    }

    private boolean isThere(int person) {
        return isWithin(person, 0, here.people - 1);
    }

    private boolean areTwo(int person, int other) {
        return isThere(person) && isThere(other) && person != other;
    }

    private static boolean isChair(int chair) {
        return isWithin(chair, 0, CHAIRS - 1);
    }

    private static boolean isKind(int kind) {
        return isWithin(kind, 0, KINDS - 1);
    }

    private static boolean isSheet(int s) {
        return isWithin(s, 0, SHEETS - 1);
    }

    private static boolean isWithin(int v, int least, int most) {
        return v >= least && v <= most;
    }

    private static boolean isOfKind(int kind, int asked) {
        int k = kind;
        for (int level = 0; level < KINDS && k >= 0 && k < KINDS; level++) {
            if (k == asked) {
                return true;
            }
            k = KIND_ABOVE[k];
        }
        return false;
    }

    /** The most PEACE over all ways in which the first n of who, from one on, can change; all sit as before then. */
    private static int mostPeace(Room room, int[] who, int from, int n) {
        if (from >= n - 1 || from >= BEST_MOST) {
            return room.together();
        }
        int most = mostPeace(room, who, from + 1, n);
        for (int i = from + 1; i < n; i++) {
            room.swap(who[from], who[i]);
            most = Math.max(most, mostPeace(room, who, from + 1, n));
            room.swap(who[from], who[i]);
        }
        return most;
    }

    private boolean goesAsTold(Sheet sheet, int person) {
        for (int i = 0; i < sheet.size; i++) {
            if (sheet.numbers[i] != ahead.seats[person]) {
                return false;
            }
            ahead.passOne();
        }
        return true;
    }

    /** What section 1 of the document tells, but THE TAPE. */
    private static final class Room {
        final int[] views;
        final int[] draughts;
        final int[] sitters;
        final int[] kinds;
        final int[] ages;
        final int[] claims;
        final int[] quarrels;
        final int[] gaps;
        final int[] seats;
        int people;
        int hour;

        Room() {
            views = new int[CHAIRS];
            Arrays.fill(views, 3);
            views[0] = 15;
            draughts = new int[CHAIRS];
            Arrays.fill(draughts, 1);
            sitters = new int[CHAIRS];
            Arrays.fill(sitters, NOBODY);
            kinds = new int[PEOPLE_MOST];
            ages = new int[PEOPLE_MOST];
            claims = new int[PEOPLE_MOST];
            Arrays.fill(claims, NO_CLAIM);
            quarrels = new int[PEOPLE_MOST];
            gaps = new int[PEOPLE_MOST];
            seats = new int[PEOPLE_MOST];
            Arrays.fill(seats, STANDS);
        }

        void become(Room other) {
            System.arraycopy(other.views, 0, views, 0, CHAIRS);
            System.arraycopy(other.draughts, 0, draughts, 0, CHAIRS);
            System.arraycopy(other.sitters, 0, sitters, 0, CHAIRS);
            System.arraycopy(other.kinds, 0, kinds, 0, PEOPLE_MOST);
            System.arraycopy(other.ages, 0, ages, 0, PEOPLE_MOST);
            System.arraycopy(other.claims, 0, claims, 0, PEOPLE_MOST);
            System.arraycopy(other.quarrels, 0, quarrels, 0, PEOPLE_MOST);
            System.arraycopy(other.gaps, 0, gaps, 0, PEOPLE_MOST);
            System.arraycopy(other.seats, 0, seats, 0, PEOPLE_MOST);
            people = other.people;
            hour = other.hour;
        }

        /** One more, standing; whoever calls this has seen that there is a number left. */
        int enter(int kind) {
            int p = people;
            people++;
            kinds[p] = kind;
            return p;
        }

        boolean areAtOdds(int p, int q) {
            return (quarrels[p] >> q & 1) == 1;
        }

        void putAtOdds(int p, int q, boolean odds) {
            if (odds) {
                quarrels[p] |= 1 << q;
                quarrels[q] |= 1 << p;
            } else {
                quarrels[p] &= ~(1 << q);
                quarrels[q] &= ~(1 << p);
            }
        }

        int pairsAtOdds() {
            int twice = 0;
            for (int p = 0; p < people; p++) {
                twice += Integer.bitCount(quarrels[p]);
            }
            return twice / 2;
        }

        void seat(int p, int c) {
            if (seats[p] >= 0) {
                sitters[seats[p]] = NOBODY;
            }
            seats[p] = c;
            if (c >= 0) {
                sitters[c] = p;
            }
        }

        void swap(int p, int q) {
            int c = seats[p];
            int d = seats[q];
            seats[p] = d;
            seats[q] = c;
            if (d >= 0) {
                sitters[d] = p;
            }
            if (c >= 0) {
                sitters[c] = q;
            }
        }

        boolean isFreeFor(int p, int c) {
            return isChair(c) && (sitters[c] == NOBODY || sitters[c] == p);
        }

        int whoSits() {
            int who = 0;
            for (int p = 0; p < people; p++) {
                if (seats[p] >= 0) {
                    who |= 1 << p;
                }
            }
            return who;
        }

        int emptyChairs() {
            int empty = 0;
            for (int c = 0; c < CHAIRS; c++) {
                if (sitters[c] == NOBODY) {
                    empty |= 1 << c;
                }
            }
            return empty;
        }

        boolean hasSun() {
            int h = hour % DAY;
            return h >= SUN_FROM && h <= SUN_TO;
        }

        int likes(int p, int c) {
            int kind = kinds[p];
            if (kind == DEAF || kind == SLEEPER) {
                int dim = views[c] / 2 - 2 * draughts[c];
                return kind == SLEEPER && c == TROLLEY ? dim + 6 : dim;
            }
            int likes = views[c] - draughts[c];
            if (views[c] > 10 && hasSun()) {
                likes -= 4;
            }
            if (kind == TALKER) {
                likes += 3;
            }
            if (claims[p] == c && (kind == OLD || kind == QUEEN)) {
                likes += ages[p] / 4;
                likes += kind == QUEEN ? 10 : 0;
            }
            return likes;
        }

        int minds(int p, int q) {
            int company = areAtOdds(p, q) ? -6 : 1;
            switch (kinds[p]) {
                case TALKER:
                    return 2 * company;
                case DEAF:
                    return 0;
                case QUEEN:
                    return company - 2;
                case SLEEPER:
                    return isOfKind(kinds[q], TALKER) ? -1 : 0;
                default:
                    return company;
            }
        }

        int givesUp(int p) {
            switch (kinds[p]) {
                case OLD:
                    return 8 + ages[p] / 10;
                case DEAF:
                case SLEEPER:
                    return 4;
                case QUEEN:
                    return 99;
                default:
                    return 8;
            }
        }

        int howWell(int p, int c) {
            int well = likes(p, c);
            if (c > 0 && sitters[c - 1] >= 0 && sitters[c - 1] != p) {
                well += minds(p, sitters[c - 1]);
            }
            if (c < CHAIRS - 1 && sitters[c + 1] >= 0 && sitters[c + 1] != p) {
                well += minds(p, sitters[c + 1]);
            }
            return well;
        }

        int howWellNow(int p) {
            return seats[p] >= 0 ? howWell(p, seats[p]) : STANDING_WELL;
        }

        /** PEACE. */
        int together() {
            int all = 0;
            for (int p = 0; p < people; p++) {
                if (seats[p] >= 0) {
                    all += howWell(p, seats[p]);
                }
            }
            return all;
        }

        int pass(int n) {
            int moved = 0;
            for (int i = 0; i < n; i++) {
                moved = passOne();
            }
            return moved;
        }

        /** An HOUR goes: how many moved of themselves (who must make room for one isn't counted). */
        int passOne() {
            int moved = 0;
            for (int p = 0; p < people; p++) {
                if (movesToEmpty(p) || takesItsClaim(p)) {
                    moved++;
                }
            }
            hour++;
            int last = sitters[TROLLEY];
            if (last >= 0 && gaps[last] < GAP_MOST) {
                gaps[last]++;
            }
            return moved;
        }

        boolean movesToEmpty(int p) {
            int best = STANDS;
            int most = 0;
            for (int c = 0; c < CHAIRS; c++) {
                if (sitters[c] == NOBODY) {
                    int well = howWell(p, c);
                    if (best == STANDS || well > most) {
                        best = c;
                        most = well;
                    }
                }
            }
            if (best == STANDS || (seats[p] >= 0 && most <= howWell(p, seats[p]))) {
                return false;
            }
            seat(p, best);
            return true;
        }

        boolean takesItsClaim(int p) {
            int c = claims[p];
            if (c < 0) {
                return false;
            }
            int q = sitters[c];
            if (q < 0 || q == p || howWell(p, c) < howWell(q, c) + givesUp(q)) {
                return false;
            }
            swap(p, q);
            return true;
        }
    }

    /** THE TAPE, and the reading of THE TEXT of a ROOM from it, TOKEN by TOKEN. */
    private static final class Text {
        final int[] bytes;
        int length;
        int items;
        // Of the TOKEN at hand: its sort, where it begins, where the next may begin, its value.
        int token;
        int place;
        int end;
        int number;

        Text() {
            bytes = new int[TAPE_MOST];
        }

        void append(int b) {
            if (length < TAPE_MOST) {
                bytes[length] = b;
                length++;
            }
        }

        /** Whether the ITEMS could all be done in a room; if not, the FAULT is at place. */
        boolean comesTo(Room room) {
            items = 0;
            end = 0;
            for (int i = 0; i <= TAPE_MOST; i++) {
                step();
                if (!takesItem(room)) {
                    return false;
                }
                items++;
                if (token != SIGN) {
                    return token == END;
                }
            }
            return false;
        }

        void step() {
            while (end < length && bytes[end] == ' ') {
                end++;
            }
            place = end;
            token = sortAt(place);
            number = 0;
            if (token == SIGN || token == UNKNOWN) {
                end++;
                return;
            }
            while (end < length && sortAt(end) == token) {
                if (token == NUMBER) {
                    // Held just above what may be, for a long row of digits must not wrap around.
                    number = Math.min(10 * number + bytes[end] - '0', NUMBER_MOST + 1);
                }
                end++;
            }
        }

        int sortAt(int at) {
            if (at >= length) {
                return END;
            }
            int b = bytes[at];
            if (b >= 'a' && b <= 'z') {
                return WORD;
            }
            if (b >= '0' && b <= '9') {
                return NUMBER;
            }
            return b == ';' ? SIGN : UNKNOWN;
        }

        boolean isWord(String word) {
            if (token != WORD || end - place != word.length()) {
                return false;
            }
            for (int i = 0; i < word.length(); i++) {
                if (bytes[place + i] != word.charAt(i)) {
                    return false;
                }
            }
            return true;
        }

        boolean isNumber(int most) {
            return token == NUMBER && number <= most;
        }

        boolean takesItem(Room room) {
            int kind = kindNamed();
            if (isKind(kind)) {
                return takesPerson(room, kind);
            }
            if (isWord("chair")) {
                return takesChair(room);
            }
            if (isWord("quarrel")) {
                return takesTwo(room, true);
            }
            return isWord("peace") && takesTwo(room, false);
        }

        int kindNamed() {
            for (int k = GUEST; k < KINDS; k++) {
                if (isWord(nameOf(k))) {
                    return k;
                }
            }
            return -1;
        }

        static String nameOf(int kind) {
            switch (kind) {
                case OLD:
                    return "old";
                case TALKER:
                    return "talker";
                case DEAF:
                    return "deaf";
                case QUEEN:
                    return "queen";
                case SLEEPER:
                    return "sleeper";
                default:
                    return "guest";
            }
        }

        boolean takesPerson(Room room, int kind) {
            if (room.people >= PEOPLE_MOST) {
                return false;
            }
            int p = room.enter(kind);
            step();
            if (!takesPerhaps("years", room.ages, p, YEARS_MOST)) {
                return false;
            }
            if (!takesPerhaps("claims", room.claims, p, CHAIRS - 1)) {
                return false;
            }
            if (isWord("in")) {
                step();
                if (!isNumber(CHAIRS - 1) || room.sitters[number] != NOBODY) {
                    return false;
                }
                room.seat(p, number);
                step();
            }
            return true;
        }

        boolean takesChair(Room room) {
            step();
            if (!isNumber(CHAIRS - 1)) {
                return false;
            }
            int c = number;
            step();
            return takesPerhaps("view", room.views, c, VIEW_MOST)
                    && takesPerhaps("draught", room.draughts, c, DRAUGHT_MOST);
        }

        boolean takesTwo(Room room, boolean odds) {
            step();
            if (!isNumber(room.people - 1)) {
                return false;
            }
            int p = number;
            step();
            if (!isNumber(room.people - 1) || number == p) {
                return false;
            }
            room.putAtOdds(p, number, odds);
            step();
            return true;
        }

        /** A word and its NUMBER, which goes to place i of a row; or neither. False: a FAULT. */
        boolean takesPerhaps(String word, int[] row, int i, int most) {
            if (!isWord(word)) {
                return true;
            }
            step();
            if (!isNumber(most)) {
                return false;
            }
            row[i] = number;
            step();
            return true;
        }
    }

    /** A row of numbers of some bits, or MISSING (of no bits). */
    private static final class Sheet {
        final long[] numbers;
        int bits;
        int size;

        Sheet() {
            numbers = new long[SHEET_MOST];
        }

        boolean isMissing() {
            return bits == 0;
        }

        int renew(int newBits, int n) {
            Arrays.fill(numbers, 0L);
            bits = newBits;
            size = newBits == 0 ? 0 : n;
            return size;
        }

        long cut(long v) {
            switch (bits) {
                case 8:
                    return (byte) v;
                case 16:
                    return (short) v;
                default:
                    return v;
            }
        }

        boolean has(int from, int n) {
            return from >= 0 && n >= 0 && n <= size && from <= size - n;
        }
    }
}
