/** Coaches on a forgetful line, owned by whoever they leave behind. The promises stand in ../shared/DOC.md. */
public final class LeftCoaches {
    public static final int NONE = -1, UNKNOWN = -1000000001, OUTSIDE = -1000000002, NOT = -1000000003, FULL = -1000000004;

    private static final int BLANK = 32;
    private static final int MOST_LETTER = 255, MOST_LETTERS = 240, MOST_FIGURES = 3;
    private static final int CANNOT_STAND = 1, OUT_OF_BOUNDS = 2, TOO_MANY = 3;
    private static final int FAULT_ANSWER = -10;

    private static final int LEAST_INNS = 2, MOST_INNS = 7, MOST_COACHES = 4, MOST_PASSENGERS = 7;
    private static final int HIDER = 1, OLD_LADY = 2, TIED = 3, MOST_KIND = 3;
    private static final int BOOKED_ON_NONE = 9;
    private static final int MOST_SLOW = 30, MOST_TOLD_WAIT = 30, MOST_WAIT = 50;
    private static final int HIDING = 9, LANTERN_HELP = 5, LACES = 3;

    private static final int MOST_LEFTS = 20, LEFT_ROW = 5;
    private static final int LAST_HORN = 9000, MOST_ROUNDS = 30;
    private static final int MOST_TRIED = 60, MOST_PLANNED = 20;
    private static final int SHOWN_PENCE = 100000;

    private static final int MOST_DAYS = 60, HUNDRED = 100;
    private static final long BILLION = 1000000000L;
    private static final int MOST_SEEN = 6, MOST_SEEN_WAIT = 40, MOST_ROLL = 15;
    private static final int MOST_UNDONE = 16, IMAGES = 2;

    private final Reader reader = new Reader();
    private final Line road = new Line();
    private final Day now = new Day(road);
    private final Day trial = new Day(road);
    private final Past past = new Past(road);
    private final Image[] images = new Image[IMAGES];
    private final Seen seen = new Seen();
    private final Roll roll = new Roll();
    private int faultAt = NONE;
    private int luck = 0;

    public LeftCoaches() {
        for (int i = 0; i < IMAGES; i++) {
            images[i] = new Image(road);
        }
    }

    // ---- the line

    public int feed(int letter) {
        if (letter < 0 || letter > MOST_LETTER) {
            return OUTSIDE;
        }
        if (reader.size >= MOST_LETTERS) {
            return FULL;
        }
        reader.add(letter);
        return reader.size;
    }

    public int line() {
        reader.read();
        faultAt = reader.faultAt;
        if (reader.fault != 0) {
            return FAULT_ANSWER - reader.fault;
        }
        road.copyFrom(reader.road);
        now.copyFrom(reader.day);
        past.forget();
        for (int i = 0; i < IMAGES; i++) {
            images[i].kept = false;
        }
        seen.size = 0;
        roll.size = 0;
        return road.passengers;
    }

    public int fault() {
        return faultAt;
    }

    public int told(int what) {
        switch (what) {
            case 0: return road.inns;
            case 1: return now.lanterns;
            case 2: return road.coaches;
            case 3: return road.passengers;
            case 4: return reader.size;
            case 5: return now.horns;
            case 6: return now.ownedCoaches();
            case 7: return now.emptyCoaches();
            case 8: return now.greatestFleet();
            case 9: return now.lefts.size;
            case 10: return seen.size;
            case 11: return roll.size;
            case 12: return past.size;
            default: return OUTSIDE;
        }
    }

    public int coach(int c, int what) {
        if (!road.hasCoach(c)) {
            return UNKNOWN;
        }
        switch (what) {
            case 0: return now.coachInn[c];
            case 1: return now.up[c];
            case 2: return now.wait[c];
            case 3: return now.owner[c];
            case 4: return now.ridersOf(c);
            case 5: return now.bookedOn(c);
            default: return OUTSIDE;
        }
    }

    public int passenger(int p, int what) {
        if (!road.hasPassenger(p)) {
            return UNKNOWN;
        }
        switch (what) {
            case 0: return road.kind[p];
            case 1: return now.at[p];
            case 2: return now.in[p];
            case 3: return now.slow[p];
            case 4: return road.wants[p];
            case 5: return now.booked[p];
            case 6: return now.pence[p] + SHOWN_PENCE;
            case 7: return now.ownedBy(p);
            case 8: return now.in[p] == NONE ? now.lag(p) : NONE;
            default: return OUTSIDE;
        }
    }

    public int lefts(int i, int what) {
        if (what < 0 || what >= LEFT_ROW) {
            return OUTSIDE;
        }
        return now.lefts.get(i, what);
    }

    // ---- what is done

    public int horn(int c) {
        if (!road.hasCoach(c)) {
            return UNKNOWN;
        }
        if (now.horns > LAST_HORN) {
            return FULL;
        }
        past.push(now);
        return now.blow(c);
    }

    public int rounds(int n) {
        int refusal = refusalOfRounds(n);
        if (refusal != 0) {
            return refusal;
        }
        past.push(now);
        now.blowRounds(n);
        return now.horns;
    }

    public int book(int p, int c) {
        if (!road.hasPassenger(p) || (c != NONE && !road.hasCoach(c))) {
            return UNKNOWN;
        }
        if (now.in[p] != NONE) {
            return NOT;
        }
        past.push(now);
        int was = now.booked[p];
        now.booked[p] = c;
        return was;
    }

    public int walk(int p, boolean up) {
        if (!road.hasPassenger(p)) {
            return UNKNOWN;
        }
        int inn = up ? now.at[p] + 1 : now.at[p] - 1;
        if (now.in[p] != NONE || inn < 0 || inn >= road.inns) {
            return NOT;
        }
        past.push(now);
        now.at[p] = inn;
        return inn;
    }

    public int out(int p) {
        if (!road.hasPassenger(p)) {
            return UNKNOWN;
        }
        int c = now.in[p];
        if (c == NONE) {
            return NOT;
        }
        past.push(now);
        now.alight(p);
        return c;
    }

    public int slow(int p, int s) {
        if (!road.hasPassenger(p)) {
            return UNKNOWN;
        }
        if (s < 0 || s > MOST_SLOW) {
            return OUTSIDE;
        }
        past.push(now);
        int was = now.slow[p];
        now.slow[p] = s;
        return was;
    }

    public int waits(int c, int w) {
        if (!road.hasCoach(c)) {
            return UNKNOWN;
        }
        if (w < 0 || w > MOST_WAIT) {
            return OUTSIDE;
        }
        past.push(now);
        int was = now.wait[c];
        now.wait[c] = w;
        return was;
    }

    public int light(int set) {
        if (set >>> road.inns != 0) {
            return UNKNOWN;
        }
        if (road.inns == 0) {
            return NOT;
        }
        past.push(now);
        int was = now.lanterns;
        now.lanterns = set;
        return was;
    }

    public int drift(int n) {
        int refusal = refusalOfRounds(n);
        if (refusal != 0) {
            return refusal;
        }
        past.push(now);
        for (int i = 0; i < n; i++) {
            chance();
            now.blowRounds(1);
        }
        return now.horns;
    }

    public int undo() {
        if (past.size == 0) {
            return NOT;
        }
        past.pop(now);
        return past.size;
    }

    // ---- tried

    public int left(int c, int what) {
        if (!road.hasCoach(c)) {
            return UNKNOWN;
        }
        if (what < 0 || what > 1) {
            return OUTSIDE;
        }
        int set = now.leftBy(c);
        return what == 0 ? set : now.ownerBehind(c, set);
    }

    public int behind(int p, int n, int what) {
        if (!road.hasPassenger(p)) {
            return UNKNOWN;
        }
        if (n < 0 || n > MOST_TRIED || what < 0 || what > 2) {
            return OUTSIDE;
        }
        trial.copyPlacesFrom(now);
        trial.blowRounds(n);
        if (what == 0) {
            return trial.whereIs(p);
        }
        return what == 1 ? trial.ownedBy(p) : trial.pence[p] + SHOWN_PENCE;
    }

    public int comes(int p) {
        if (!road.hasPassenger(p)) {
            return UNKNOWN;
        }
        trial.copyPlacesFrom(now);
        for (int n = 0; n <= MOST_TRIED; n++) {
            if (trial.at[p] == road.wants[p]) {
                return n;
            }
            trial.blowRounds(1);
        }
        return NONE;
    }

    public int leastWait(int c) {
        if (!road.hasCoach(c)) {
            return UNKNOWN;
        }
        return now.greatestLag(c);
    }

    /**
     * While nobody is left, everyone gets in whatever the lanterns are, so there is one course of things only:
     * an inn needs lanterns if, on that course, somebody would be left there in the dark.
     */
    public int lights(int n) {
        if (n < 1 || n > MOST_PLANNED) {
            return OUTSIDE;
        }
        if (road.inns == 0) {
            return NOT;
        }
        trial.copyPlacesFrom(now);
        trial.lanterns = 0;
        for (int i = 0; i < n; i++) {
            for (int c = 0; c < road.coaches; c++) {
                if (trial.leftBy(c) != 0) {
                    trial.lanterns |= 1 << trial.coachInn[c];
                }
                if (trial.blow(c) != 0) {
                    return NONE;
                }
            }
        }
        return trial.lanterns;
    }

    public int scheme(int p, int n, int what) {
        if (!road.hasPassenger(p)) {
            return UNKNOWN;
        }
        if (n < 1 || n > MOST_PLANNED || what < 0 || what > 1) {
            return OUTSIDE;
        }
        int best = NONE;
        int mostOwned = 0;
        int mostPence = 0;
        for (int s = 0; s <= MOST_SLOW; s++) {
            trial.copyPlacesFrom(now);
            trial.slow[p] = s;
            trial.blowRounds(n);
            int owned = Integer.bitCount(trial.ownedBy(p));
            int pence = trial.pence[p];
            if (best == NONE || owned > mostOwned || (owned == mostOwned && pence > mostPence)) {
                best = s;
                mostOwned = owned;
                mostPence = pence;
            }
        }
        return what == 0 ? best : mostOwned;
    }

    public int clear(int n, int q) {
        if (n < 0 || n > MOST_DAYS || q < 0 || q > HUNDRED) {
            return OUTSIDE;
        }
        long odds = BILLION;
        for (int i = 0; i < n; i++) {
            odds = odds * q / HUNDRED;
        }
        return (int) odds;
    }

    // ---- what is seen

    public int see(int k, int r, int w, boolean left) {
        if (k < 0 || k > MOST_KIND || r < 0 || r >= LACES || w < 0 || w > MOST_SEEN_WAIT) {
            return OUTSIDE;
        }
        if (seen.size >= MOST_SEEN) {
            return FULL;
        }
        seen.add(k, r, w, left);
        return seen.size;
    }

    public int truly(int what) {
        if (what < 0 || what > 2) {
            return OUTSIDE;
        }
        int count = 0;
        int least = NONE;
        int greatest = NONE;
        for (int s = 0; s <= MOST_SLOW; s++) {
            if (seen.fits(s)) {
                count++;
                least = least == NONE ? s : least;
                greatest = s;
            }
        }
        if (what == 0) {
            return count;
        }
        return what == 1 ? least : greatest;
    }

    public int tryNext() {
        int all = truly(0);
        int gotIn = 0;
        int best = NONE;
        int bestPart = all;
        for (int w = 0; w <= MOST_SEEN_WAIT; w++) {
            if (w <= MOST_SLOW && seen.fits(w)) {
                gotIn++;
            }
            int part = Math.max(gotIn, all - gotIn);
            if (part < bestPart) {
                best = w;
                bestPart = part;
            }
        }
        return best;
    }

    public int write(int c, int p) {
        if (!road.hasCoach(c) || (p != NONE && !road.hasPassenger(p))) {
            return UNKNOWN;
        }
        if (roll.size >= MOST_ROLL) {
            return FULL;
        }
        roll.add(c, p);
        return roll.size;
    }

    public int tear() {
        int both = seen.size + roll.size;
        seen.size = 0;
        roll.size = 0;
        return both;
    }

    public int judge() {
        return roll.firstWrong(now);
    }

    // ---- draws, images

    public int seed(int v) {
        if (v < 0) {
            return OUTSIDE;
        }
        int was = luck;
        luck = v;
        return was;
    }

    public int keep(int i) {
        if (i < 0 || i >= IMAGES) {
            return UNKNOWN;
        }
        Image image = images[i];
        image.day.copyFrom(now);
        image.luck = luck;
        image.kept = true;
        past.forget();
        return 1;
    }

    public int goBack(int i) {
        if (i < 0 || i >= IMAGES) {
            return UNKNOWN;
        }
        Image image = images[i];
        if (!image.kept) {
            return NOT;
        }
        now.copyFrom(image.day);
        luck = image.luck;
        past.forget();
        return 1;
    }

    // ---- what several calls share

    private int refusalOfRounds(int n) {
        if (n < 1 || n > MOST_ROUNDS) {
            return OUTSIDE;
        }
        if (road.inns == 0) {
            return NOT;
        }
        return now.horns > LAST_HORN ? FULL : 0;
    }

    private int draw(int n) {
        luck = (int) ((luck * 1103515245L + 12345L) & 0x7fffffffL);
        return n > 0 ? luck / 65536 % n : 0;
    }

    /** What chance does ahead of a round; each of the three draws is made, whatever the first one says. */
    private void chance() {
        if (road.passengers == 0 || road.coaches == 0) {
            return;
        }
        int deed = draw(4);
        int p = draw(road.passengers);
        int c = draw(road.coaches);
        if (deed == 2) {
            now.slow[p] = draw(MOST_SLOW + 1);
        } else if (deed == 3) {
            if (now.in[p] != NONE) {
                now.alight(p);
            }
        } else if (now.in[p] == NONE) {
            now.booked[p] = c;
        }
    }

    private static int lagInTheDark(int kind, int slow, boolean ownsNone, int horns) {
        switch (kind) {
            case HIDER: return ownsNone ? slow + HIDING : slow;
            case OLD_LADY: return slow + horns % LACES;
            case TIED: return slow / 2;
            default: return slow;
        }
    }

    /** What the text tells once and for all: no deed changes it. No inns: no line. */
    private static final class Line {
        int inns = 0;
        int coaches = 0;
        int passengers = 0;
        final int[] kind = new int[MOST_PASSENGERS];
        final int[] wants = new int[MOST_PASSENGERS];

        void wipe() {
            inns = 0;
            coaches = 0;
            passengers = 0;
        }

        void copyFrom(Line other) {
            inns = other.inns;
            coaches = other.coaches;
            passengers = other.passengers;
            System.arraycopy(other.kind, 0, kind, 0, MOST_PASSENGERS);
            System.arraycopy(other.wants, 0, wants, 0, MOST_PASSENGERS);
        }

        boolean hasCoach(int c) {
            return c >= 0 && c < coaches;
        }

        boolean hasPassenger(int p) {
            return p >= 0 && p < passengers;
        }
    }

    /** The book of lefts: a ring, so that the oldest row gives way. */
    private static final class LeftBook {
        final int[] rows = new int[MOST_LEFTS * LEFT_ROW];
        int size = 0;
        int next = 0;

        void copyFrom(LeftBook other) {
            System.arraycopy(other.rows, 0, rows, 0, MOST_LEFTS * LEFT_ROW);
            size = other.size;
            next = other.next;
        }

        void add(int horn, int coach, int inn, int heir, int ahead) {
            int row = next * LEFT_ROW;
            rows[row] = horn;
            rows[row + 1] = coach;
            rows[row + 2] = inn;
            rows[row + 3] = heir;
            rows[row + 4] = ahead;
            next = next + 1 < MOST_LEFTS ? next + 1 : 0;
            size = Math.min(size + 1, MOST_LEFTS);
        }

        int get(int i, int what) {
            if (i < 0 || i >= size || what < 0 || what >= LEFT_ROW) {
                return NONE;
            }
            int row = next - 1 - i;
            return rows[(row < 0 ? row + MOST_LEFTS : row) * LEFT_ROW + what];
        }
    }

    /** All that deeds change: section 2 of the document. */
    private static final class Day {
        final Line road;
        int horns = 0;
        int lanterns = 0;
        final int[] coachInn = new int[MOST_COACHES];
        final int[] up = new int[MOST_COACHES];
        final int[] wait = new int[MOST_COACHES];
        final int[] owner = new int[MOST_COACHES];
        final int[] at = new int[MOST_PASSENGERS];
        final int[] in = new int[MOST_PASSENGERS];
        final int[] slow = new int[MOST_PASSENGERS];
        final int[] booked = new int[MOST_PASSENGERS];
        final int[] pence = new int[MOST_PASSENGERS];
        final LeftBook lefts = new LeftBook();

        Day(Line road) {
            this.road = road;
        }

        void copyFrom(Day other) {
            copyPlacesFrom(other);
            lefts.copyFrom(other.lefts);
        }

        /** Without the book of lefts: what is tried never reads it. */
        void copyPlacesFrom(Day other) {
            horns = other.horns;
            lanterns = other.lanterns;
            System.arraycopy(other.coachInn, 0, coachInn, 0, MOST_COACHES);
            System.arraycopy(other.up, 0, up, 0, MOST_COACHES);
            System.arraycopy(other.wait, 0, wait, 0, MOST_COACHES);
            System.arraycopy(other.owner, 0, owner, 0, MOST_COACHES);
            System.arraycopy(other.at, 0, at, 0, MOST_PASSENGERS);
            System.arraycopy(other.in, 0, in, 0, MOST_PASSENGERS);
            System.arraycopy(other.slow, 0, slow, 0, MOST_PASSENGERS);
            System.arraycopy(other.booked, 0, booked, 0, MOST_PASSENGERS);
            System.arraycopy(other.pence, 0, pence, 0, MOST_PASSENGERS);
        }

        int ownedBy(int p) {
            int set = 0;
            for (int c = 0; c < road.coaches; c++) {
                if (owner[c] == p) {
                    set |= 1 << c;
                }
            }
            return set;
        }

        int ownedCoaches() {
            return (1 << road.coaches) - 1 & ~ownedBy(NONE);
        }

        int ridersOf(int c) {
            int set = 0;
            for (int p = 0; p < road.passengers; p++) {
                if (in[p] == c) {
                    set |= 1 << p;
                }
            }
            return set;
        }

        int bookedOn(int c) {
            int set = 0;
            for (int p = 0; p < road.passengers; p++) {
                if (booked[p] == c) {
                    set |= 1 << p;
                }
            }
            return set;
        }

        int emptyCoaches() {
            int set = 0;
            for (int c = 0; c < road.coaches; c++) {
                if ((ridersOf(c) | bookedOn(c)) == 0) {
                    set |= 1 << c;
                }
            }
            return set;
        }

        int greatestFleet() {
            int best = NONE;
            int mostOwned = 0;
            int mostPence = 0;
            for (int p = 0; p < road.passengers; p++) {
                int owned = Integer.bitCount(ownedBy(p));
                if (owned > mostOwned || (best != NONE && owned == mostOwned && pence[p] > mostPence)) {
                    best = p;
                    mostOwned = owned;
                    mostPence = pence[p];
                }
            }
            return best;
        }

        int whereIs(int p) {
            int c = in[p];
            return c >= 0 && c < MOST_COACHES ? coachInn[c] : at[p];
        }

        int lag(int p) {
            int dark = lagInTheDark(road.kind[p], slow[p], ownedBy(p) == 0, horns);
            boolean lit = at[p] >= 0 && (lanterns >> at[p] & 1) == 1;
            return lit ? Math.max(dark - LANTERN_HELP, 0) : dark;
        }

        boolean isCalledBy(int c, int p) {
            return in[p] == NONE && booked[p] == c && at[p] == coachInn[c];
        }

        int greatestLag(int c) {
            int greatest = 0;
            for (int p = 0; p < road.passengers; p++) {
                if (isCalledBy(c, p)) {
                    greatest = Math.max(greatest, lag(p));
                }
            }
            return greatest;
        }

        int leftBy(int c) {
            int set = 0;
            for (int p = 0; p < road.passengers; p++) {
                if (isCalledBy(c, p) && lag(p) > wait[c]) {
                    set |= 1 << p;
                }
            }
            return set;
        }

        int ownerBehind(int c, int left) {
            int heir = owner[c];
            int greatest = NONE;
            for (int p = 0; p < road.passengers; p++) {
                if ((left >> p & 1) == 1 && lag(p) > greatest) {
                    heir = p;
                    greatest = lag(p);
                }
            }
            return heir;
        }

        void blowRounds(int n) {
            for (int i = 0; i < n; i++) {
                for (int c = 0; c < road.coaches; c++) {
                    blow(c);
                }
            }
        }

        /** The lags are all read ahead of the first change: owning a coach makes a hider quicker. */
        int blow(int c) {
            int left = leftBy(c);
            int heir = ownerBehind(c, left);
            if (left != 0) {
                lefts.add(horns, c, coachInn[c], heir, owner[c]);
            }
            callIn(c, left);
            owner[c] = heir;
            go(c);
            arrive(c);
            horns++;
            return left;
        }

        void callIn(int c, int left) {
            for (int p = 0; p < road.passengers; p++) {
                if ((left >> p & 1) == 1) {
                    booked[p] = NONE;
                } else if (isCalledBy(c, p)) {
                    at[p] = NONE;
                    in[p] = c;
                }
            }
        }

        void go(int c) {
            if (up[c] == 1 && coachInn[c] >= road.inns - 1) {
                up[c] = 0;
            } else if (up[c] == 0 && coachInn[c] <= 0) {
                up[c] = 1;
            }
            coachInn[c] += up[c] == 1 ? 1 : -1;
        }

        void arrive(int c) {
            int payee = owner[c];
            for (int p = 0; p < road.passengers; p++) {
                if (in[p] == c) {
                    if (road.hasPassenger(payee) && payee != p) {
                        pence[p]--;
                        pence[payee]++;
                    }
                    if (road.wants[p] == coachInn[c]) {
                        alight(p);
                    }
                }
            }
        }

        void alight(int p) {
            at[p] = whereIs(p);
            in[p] = NONE;
            booked[p] = NONE;
        }
    }

    /**
     * Reads the text into a line and a day of its own, so that a fault leaves the true ones as they were.
     * No horn is ever blown on that day: its horns, pence and book of lefts stay as they were made.
     */
    private static final class Reader {
        final int[] text = new int[MOST_LETTERS];
        int size = 0;
        int pos = 0;
        int fault = 0;
        int faultAt = NONE;
        final Line road = new Line();
        final Day day = new Day(road);

        void add(int letter) {
            if (size < MOST_LETTERS) {
                text[size] = letter;
                size++;
            }
        }

        void read() {
            pos = 0;
            fault = 0;
            faultAt = NONE;
            road.wipe();
            day.lanterns = 0;
            for (int clause = 0; clause <= MOST_LETTERS; clause++) {
                skipBlanks();
                if (fault != 0 || pos >= size) {
                    break;
                }
                judgeWord(text[pos]);
                if (fault == 0) {
                    readClause(text[pos]);
                }
            }
            size = 0;
        }

        void judgeWord(int word) {
            boolean stands = road.inns == 0 ? word == 'l' : word == 'l' || word == 'c' || word == 'p';
            if (!stands) {
                blame(CANNOT_STAND, pos);
            } else if (isTooMany(word)) {
                blame(TOO_MANY, pos);
            }
        }

        boolean isTooMany(int word) {
            if (word == 'c') {
                return road.coaches >= MOST_COACHES;
            }
            if (word == 'p') {
                return road.passengers >= MOST_PASSENGERS;
            }
            return road.inns > 0;
        }

        void readClause(int word) {
            pos++;
            if (word == 'l') {
                readInns();
            } else if (word == 'c') {
                readCoach(road.coaches);
            } else {
                readPassenger(road.passengers);
            }
            readEnd();
        }

        void readInns() {
            int inns = number(LEAST_INNS, MOST_INNS);
            day.lanterns = number(0, (1 << inns) - 1);
            road.inns = inns;
        }

        void readCoach(int c) {
            if (c >= MOST_COACHES) {
                return;
            }
            day.coachInn[c] = number(0, road.inns - 1);
            day.up[c] = number(0, 1);
            day.wait[c] = number(0, MOST_TOLD_WAIT);
            day.owner[c] = NONE;
            road.coaches = c + 1;
        }

        void readPassenger(int p) {
            if (p >= MOST_PASSENGERS) {
                return;
            }
            road.kind[p] = number(0, MOST_KIND);
            day.at[p] = number(0, road.inns - 1);
            day.in[p] = NONE;
            day.slow[p] = number(0, MOST_SLOW);
            road.wants[p] = number(0, road.inns - 1);
            day.booked[p] = booking();
            road.passengers = p + 1;
        }

        int booking() {
            skipBlanks();
            int first = pos;
            int c = number(0, BOOKED_ON_NONE);
            if (c == BOOKED_ON_NONE) {
                return NONE;
            }
            if (c >= road.coaches) {
                blame(OUT_OF_BOUNDS, first);
            }
            return c;
        }

        /** Once a fault is found nothing more is read: 0 stands for what is missing. */
        int number(int least, int most) {
            skipBlanks();
            if (!isFigure()) {
                blame(CANNOT_STAND, pos);
            }
            if (fault != 0) {
                return 0;
            }
            int first = pos;
            int value = 0;
            while (pos < size && isFigure()) {
                if (pos - first < MOST_FIGURES) {
                    value = value * 10 + text[pos] - '0';
                }
                pos++;
            }
            if (pos - first > MOST_FIGURES || value < least || value > most) {
                blame(OUT_OF_BOUNDS, first);
                return 0;
            }
            return value;
        }

        void readEnd() {
            skipBlanks();
            if (pos >= size || text[pos] != ';') {
                blame(CANNOT_STAND, pos);
            } else {
                pos++;
            }
        }

        void skipBlanks() {
            while (pos < size && text[pos] == BLANK) {
                pos++;
            }
        }

        boolean isFigure() {
            return pos < size && text[pos] >= '0' && text[pos] <= '9';
        }

        /** The text is read in order, so the first fault found is the first there is. */
        void blame(int number, int letter) {
            if (fault == 0) {
                fault = number;
                faultAt = letter;
            }
        }
    }

    /** What can be undone: a ring, so that the oldest day gives way. */
    private static final class Past {
        final Day[] days = new Day[MOST_UNDONE];
        int size = 0;
        int next = 0;

        Past(Line road) {
            for (int i = 0; i < MOST_UNDONE; i++) {
                days[i] = new Day(road);
            }
        }

        void forget() {
            size = 0;
            next = 0;
        }

        void push(Day now) {
            days[next].copyFrom(now);
            next = next + 1 < MOST_UNDONE ? next + 1 : 0;
            size = Math.min(size + 1, MOST_UNDONE);
        }

        void pop(Day now) {
            if (size > 0) {
                next = next > 0 ? next - 1 : MOST_UNDONE - 1;
                size--;
                now.copyFrom(days[next]);
            }
        }
    }

    private static final class Image {
        final Day day;
        int luck = 0;
        boolean kept = false;

        Image(Line road) {
            day = new Day(road);
        }
    }

    private static final class Seen {
        final int[] kind = new int[MOST_SEEN];
        final int[] horns = new int[MOST_SEEN];
        final int[] wait = new int[MOST_SEEN];
        final boolean[] wasLeft = new boolean[MOST_SEEN];
        int size = 0;

        void add(int k, int r, int w, boolean left) {
            if (size < MOST_SEEN) {
                kind[size] = k;
                horns[size] = r;
                wait[size] = w;
                wasLeft[size] = left;
                size++;
            }
        }

        boolean fits(int slow) {
            for (int i = 0; i < size; i++) {
                boolean left = lagInTheDark(kind[i], slow, true, horns[i]) > wait[i];
                if (left != wasLeft[i]) {
                    return false;
                }
            }
            return true;
        }
    }

    private static final class Roll {
        final int[] coach = new int[MOST_ROLL];
        final int[] owner = new int[MOST_ROLL];
        int size = 0;

        void add(int c, int p) {
            if (size < MOST_ROLL) {
                coach[size] = c;
                owner[size] = p;
                size++;
            }
        }

        int firstWrong(Day now) {
            for (int i = 0; i < size; i++) {
                if (now.owner[coach[i]] != owner[i]) {
                    return i;
                }
            }
            return NONE;
        }
    }
}
