import java.util.ArrayList;
import java.util.List;

/**
 * The document written a second time, slowly and plainly: everything is tried out, nothing is worked out ahead.
 * ModelTest compares the class with it, so nothing here is taken from there.
 */
public final class Model {
    static final int NONE = -1, UNKNOWN = -1000000001, OUTSIDE = -1000000002, NOT = -1000000003, FULL = -1000000004;

    static final class Coach {
        int inn, way, wait, owner = NONE;
    }

    static final class Person {
        int kind, inn, slow, wants, booked, coach = NONE, pence;
    }

    static final class World {
        int inns, lanterns, horns;
        List<Coach> coaches = new ArrayList<>();
        List<Person> people = new ArrayList<>();
        List<int[]> lefts = new ArrayList<>();

        World copy() {
            World w = new World();
            w.inns = inns;
            w.lanterns = lanterns;
            w.horns = horns;
            for (Coach c : coaches) {
                Coach d = new Coach();
                d.inn = c.inn;
                d.way = c.way;
                d.wait = c.wait;
                d.owner = c.owner;
                w.coaches.add(d);
            }
            for (Person p : people) {
                Person q = new Person();
                q.kind = p.kind;
                q.inn = p.inn;
                q.slow = p.slow;
                q.wants = p.wants;
                q.booked = p.booked;
                q.coach = p.coach;
                q.pence = p.pence;
                w.people.add(q);
            }
            w.lefts.addAll(lefts);
            return w;
        }

        int owned(int p) {
            int set = 0;
            for (int c = 0; c < coaches.size(); c++) {
                set += coaches.get(c).owner == p ? 1 << c : 0;
            }
            return set;
        }

        int lag(int p) {
            Person who = people.get(p);
            int lag = who.slow;
            if (who.kind == 1 && owned(p) == 0) {
                lag += 9;
            }
            if (who.kind == 2) {
                lag += horns % 3;
            }
            if (who.kind == 3) {
                lag /= 2;
            }
            if ((lanterns & 1 << who.inn) != 0) {
                lag = Math.max(0, lag - 5);
            }
            return lag;
        }

        int horn(int c) {
            Coach it = coaches.get(c);
            int[] lags = new int[people.size()];
            List<Integer> late = new ArrayList<>();
            List<Integer> ready = new ArrayList<>();
            for (int p = 0; p < people.size(); p++) {
                Person who = people.get(p);
                if (who.booked == c && who.coach == NONE && who.inn == it.inn) {
                    lags[p] = lag(p);
                    (lags[p] <= it.wait ? ready : late).add(p);
                }
            }
            int set = 0;
            int heir = NONE;
            for (int p : late) {
                set |= 1 << p;
                heir = heir == NONE || lags[p] > lags[heir] ? p : heir;
                people.get(p).booked = NONE;
            }
            for (int p : ready) {
                people.get(p).coach = c;
                people.get(p).inn = NONE;
            }
            if (heir != NONE) {
                lefts.add(0, new int[] {horns, c, it.inn, heir, it.owner});
                if (lefts.size() > 20) {
                    lefts.remove(20);
                }
                it.owner = heir;
            }
            if (it.way == 1 && it.inn == inns - 1) {
                it.way = 0;
            } else if (it.way == 0 && it.inn == 0) {
                it.way = 1;
            }
            it.inn += it.way == 1 ? 1 : -1;
            for (int p = 0; p < people.size(); p++) {
                if (people.get(p).coach == c && it.owner != NONE && it.owner != p) {
                    people.get(p).pence -= 1;
                    people.get(it.owner).pence += 1;
                }
            }
            for (Person who : people) {
                if (who.coach == c && who.wants == it.inn) {
                    getOut(who);
                }
            }
            horns++;
            return set;
        }

        void getOut(Person who) {
            who.inn = coaches.get(who.coach).inn;
            who.coach = NONE;
            who.booked = NONE;
        }

        /** Whether anybody was left. */
        boolean rounds(int n) {
            boolean any = false;
            for (int i = 0; i < n; i++) {
                for (int c = 0; c < coaches.size(); c++) {
                    any |= horn(c) != 0;
                }
            }
            return any;
        }
    }

    private final StringBuilder text = new StringBuilder();
    private int faultAt = NONE;
    private World world = new World();
    private final List<World> past = new ArrayList<>();
    private final World[] images = new World[2];
    private final long[] imageSeeds = new long[2];
    private final List<int[]> seen = new ArrayList<>();
    private final List<int[]> roll = new ArrayList<>();
    private long seed = 0;

    // ---- the line

    public int feed(int letter) {
        if (letter < 0 || letter > 255) {
            return OUTSIDE;
        }
        if (text.length() == 240) {
            return FULL;
        }
        text.append((char) letter);
        return text.length();
    }

    static final class Fault extends Exception {
        private static final long serialVersionUID = 1;
        final int number;
        final int letter;

        Fault(int number, int letter) {
            this.number = number;
            this.letter = letter;
        }
    }

    /** A token is {where it begins, its letters, its value, or NONE if it is no number}. */
    private static List<int[]> tokens(String text) {
        List<int[]> tokens = new ArrayList<>();
        for (int i = 0; i < text.length(); ) {
            int end = i + 1;
            if (Character.toString(text.charAt(i)).matches("[0-9]")) {
                while (end < text.length() && Character.toString(text.charAt(end)).matches("[0-9]")) {
                    end++;
                }
                String figures = text.substring(i, end);
                tokens.add(new int[] {i, '0', figures.length() > 3 ? 1000000 : Integer.parseInt(figures)});
            } else if (text.charAt(i) != ' ') {
                tokens.add(new int[] {i, text.charAt(i), NONE});
            }
            i = end;
        }
        tokens.add(new int[] {text.length(), 256, NONE});
        return tokens;
    }

    private static World parse(String text) throws Fault {
        World w = new World();
        List<int[]> tokens = tokens(text);
        for (int i = 0; i < tokens.size() - 1; ) {
            int where = tokens.get(i)[0];
            char word = (char) tokens.get(i)[1];
            if (i == 0 ? word != 'l' : "lcp".indexOf(word) < 0) {
                throw new Fault(1, where);
            }
            if (i > 0 && word == 'l' || word == 'c' && w.coaches.size() == 4 || word == 'p' && w.people.size() == 7) {
                throw new Fault(3, where);
            }
            i++;
            int last = w.inns - 1;
            int[] most = word == 'l' ? new int[] {7, 0} : word == 'c' ? new int[] {last, 1, 30} : new int[] {3, last, 30, last, 9};
            int[] got = new int[most.length];
            for (int k = 0; k < most.length; k++, i++) {
                int[] token = tokens.get(i);
                if (token[2] == NONE) {
                    throw new Fault(1, token[0]);
                }
                got[k] = token[2];
                int bound = word == 'l' && k == 1 ? (int) Math.pow(2, got[0]) - 1 : most[k];
                boolean noCoach = word == 'p' && k == 4 && got[k] != 9 && got[k] >= w.coaches.size();
                if (got[k] > bound || noCoach || word == 'l' && k == 0 && got[k] < 2) {
                    throw new Fault(2, token[0]);
                }
            }
            if (tokens.get(i)[1] != ';') {
                throw new Fault(1, tokens.get(i)[0]);
            }
            i++;
            if (word == 'l') {
                w.inns = got[0];
                w.lanterns = got[1];
            } else if (word == 'c') {
                Coach c = new Coach();
                c.inn = got[0];
                c.way = got[1];
                c.wait = got[2];
                w.coaches.add(c);
            } else {
                Person p = new Person();
                p.kind = got[0];
                p.inn = got[1];
                p.slow = got[2];
                p.wants = got[3];
                p.booked = got[4] == 9 ? NONE : got[4];
                w.people.add(p);
            }
        }
        return w;
    }

    public int line() {
        String told = text.toString();
        text.setLength(0);
        try {
            world = parse(told);
        } catch (Fault fault) {
            faultAt = fault.letter;
            return -10 - fault.number;
        }
        faultAt = NONE;
        past.clear();
        images[0] = null;
        images[1] = null;
        seen.clear();
        roll.clear();
        return world.people.size();
    }

    public int fault() {
        return faultAt;
    }

    public int told(int what) {
        int owned = 0;
        int empty = 0;
        for (int c = 0; c < world.coaches.size(); c++) {
            owned |= world.coaches.get(c).owner >= 0 ? 1 << c : 0;
            boolean any = false;
            for (Person p : world.people) {
                any |= p.booked == c || p.coach == c;
            }
            empty |= any ? 0 : 1 << c;
        }
        int[] all = {world.inns, world.lanterns, world.coaches.size(), world.people.size(), text.length(), world.horns,
            owned, empty, fleet(), world.lefts.size(), seen.size(), roll.size(), past.size()};
        return what < 0 || what >= all.length ? OUTSIDE : all[what];
    }

    private int fleet() {
        int best = NONE;
        long bestWorth = 0;
        for (int p = world.people.size() - 1; p >= 0; p--) {
            int owned = Integer.bitCount(world.owned(p));
            long worth = owned * 1000000000L + world.people.get(p).pence;
            if (owned > 0 && (best == NONE || worth >= bestWorth)) {
                best = p;
                bestWorth = worth;
            }
        }
        return best;
    }

    private boolean noCoach(int c) {
        return c < 0 || c >= world.coaches.size();
    }

    private boolean nobody(int p) {
        return p < 0 || p >= world.people.size();
    }

    public int coach(int c, int what) {
        if (noCoach(c)) {
            return UNKNOWN;
        }
        Coach it = world.coaches.get(c);
        int in = 0;
        int booked = 0;
        for (int p = 0; p < world.people.size(); p++) {
            in |= world.people.get(p).coach == c ? 1 << p : 0;
            booked |= world.people.get(p).booked == c ? 1 << p : 0;
        }
        int[] all = {it.inn, it.way, it.wait, it.owner, in, booked};
        return what < 0 || what >= all.length ? OUTSIDE : all[what];
    }

    public int passenger(int p, int what) {
        if (nobody(p)) {
            return UNKNOWN;
        }
        Person who = world.people.get(p);
        int lag = who.coach == NONE ? world.lag(p) : NONE;
        int[] all = {who.kind, who.inn, who.coach, who.slow, who.wants, who.booked, who.pence + 100000, world.owned(p), lag};
        return what < 0 || what >= all.length ? OUTSIDE : all[what];
    }

    public int lefts(int i, int what) {
        if (what < 0 || what > 4) {
            return OUTSIDE;
        }
        return i < 0 || i >= world.lefts.size() ? NONE : world.lefts.get(i)[what];
    }

    // ---- what is done

    private void remember() {
        past.add(world.copy());
        if (past.size() > 16) {
            past.remove(0);
        }
    }

    public int horn(int c) {
        if (noCoach(c)) {
            return UNKNOWN;
        }
        if (world.horns > 9000) {
            return FULL;
        }
        remember();
        return world.horn(c);
    }

    public int rounds(int n) {
        if (n < 1 || n > 30) {
            return OUTSIDE;
        }
        if (world.inns == 0) {
            return NOT;
        }
        if (world.horns > 9000) {
            return FULL;
        }
        remember();
        world.rounds(n);
        return world.horns;
    }

    public int book(int p, int c) {
        if (nobody(p) || noCoach(c) && c != NONE) {
            return UNKNOWN;
        }
        Person who = world.people.get(p);
        if (who.coach != NONE) {
            return NOT;
        }
        remember();
        int was = who.booked;
        who.booked = c;
        return was;
    }

    public int walk(int p, boolean up) {
        if (nobody(p)) {
            return UNKNOWN;
        }
        Person who = world.people.get(p);
        if (who.coach != NONE || who.inn == (up ? world.inns - 1 : 0)) {
            return NOT;
        }
        remember();
        who.inn += up ? 1 : -1;
        return who.inn;
    }

    public int out(int p) {
        if (nobody(p)) {
            return UNKNOWN;
        }
        Person who = world.people.get(p);
        if (who.coach == NONE) {
            return NOT;
        }
        remember();
        int was = who.coach;
        world.getOut(who);
        return was;
    }

    public int slow(int p, int s) {
        if (nobody(p)) {
            return UNKNOWN;
        }
        if (s < 0 || s > 30) {
            return OUTSIDE;
        }
        remember();
        int was = world.people.get(p).slow;
        world.people.get(p).slow = s;
        return was;
    }

    public int waits(int c, int w) {
        if (noCoach(c)) {
            return UNKNOWN;
        }
        if (w < 0 || w > 50) {
            return OUTSIDE;
        }
        remember();
        int was = world.coaches.get(c).wait;
        world.coaches.get(c).wait = w;
        return was;
    }

    public int light(int set) {
        for (int k = world.inns; k < 32; k++) {
            if ((set & 1 << k) != 0) {
                return UNKNOWN;
            }
        }
        if (world.inns == 0) {
            return NOT;
        }
        remember();
        int was = world.lanterns;
        world.lanterns = set;
        return was;
    }

    private int draw(int n) {
        seed = (seed * 1103515245L + 12345L) % 2147483648L;
        return (int) (seed / 65536 % n);
    }

    public int drift(int n) {
        if (n < 1 || n > 30) {
            return OUTSIDE;
        }
        if (world.inns == 0) {
            return NOT;
        }
        if (world.horns > 9000) {
            return FULL;
        }
        remember();
        for (int i = 0; i < n; i++) {
            if (!world.people.isEmpty() && !world.coaches.isEmpty()) {
                int deed = draw(4);
                Person who = world.people.get(draw(world.people.size()));
                int c = draw(world.coaches.size());
                switch (deed) {
                    case 2 -> who.slow = draw(31);
                    case 3 -> {
                        if (who.coach != NONE) {
                            world.getOut(who);
                        }
                    }
                    default -> who.booked = who.coach == NONE ? c : who.booked;
                }
            }
            world.rounds(1);
        }
        return world.horns;
    }

    public int undo() {
        if (past.isEmpty()) {
            return NOT;
        }
        world = past.remove(past.size() - 1);
        return past.size();
    }

    // ---- tried

    public int left(int c, int what) {
        if (noCoach(c)) {
            return UNKNOWN;
        }
        if (what != 0 && what != 1) {
            return OUTSIDE;
        }
        World w = world.copy();
        int set = w.horn(c);
        return what == 0 ? set : w.coaches.get(c).owner;
    }

    public int behind(int p, int n, int what) {
        if (nobody(p)) {
            return UNKNOWN;
        }
        if (n < 0 || n > 60 || what < 0 || what > 2) {
            return OUTSIDE;
        }
        World w = world.copy();
        w.rounds(n);
        Person who = w.people.get(p);
        int where = who.coach == NONE ? who.inn : w.coaches.get(who.coach).inn;
        return what == 0 ? where : what == 1 ? w.owned(p) : who.pence + 100000;
    }

    public int comes(int p) {
        if (nobody(p)) {
            return UNKNOWN;
        }
        for (int n = 0; n <= 60; n++) {
            World w = world.copy();
            w.rounds(n);
            Person who = w.people.get(p);
            if (who.coach == NONE && who.inn == who.wants) {
                return n;
            }
        }
        return NONE;
    }

    public int leastWait(int c) {
        if (noCoach(c)) {
            return UNKNOWN;
        }
        for (int wait = 0; wait <= 50; wait++) {
            World w = world.copy();
            w.coaches.get(c).wait = wait;
            if (w.horn(c) == 0) {
                return wait;
            }
        }
        throw new IllegalStateException("every wait leaves somebody");
    }

    public int lights(int n) {
        if (n < 1 || n > 20) {
            return OUTSIDE;
        }
        if (world.inns == 0) {
            return NOT;
        }
        int best = NONE;
        for (int set = 0; set < 1 << world.inns; set++) {
            World w = world.copy();
            w.lanterns = set;
            if (!w.rounds(n) && (best == NONE || Integer.bitCount(set) < Integer.bitCount(best))) {
                best = set;
            }
        }
        return best;
    }

    public int scheme(int p, int n, int what) {
        if (nobody(p)) {
            return UNKNOWN;
        }
        if (n < 1 || n > 20 || what != 0 && what != 1) {
            return OUTSIDE;
        }
        int best = 0;
        long bestWorth = Long.MIN_VALUE;
        for (int s = 30; s >= 0; s--) {
            World w = world.copy();
            w.people.get(p).slow = s;
            w.rounds(n);
            long worth = Integer.bitCount(w.owned(p)) * 1000000000L + w.people.get(p).pence + 1000000;
            if (worth >= bestWorth) {
                best = s;
                bestWorth = worth;
            }
        }
        return what == 0 ? best : (int) (bestWorth / 1000000000L);
    }

    public int clear(int n, int q) {
        if (n < 0 || n > 60 || q < 0 || q > 100) {
            return OUTSIDE;
        }
        return n == 0 ? 1000000000 : (int) ((long) clear(n - 1, q) * q / 100);
    }

    // ---- what is seen

    public int see(int k, int r, int w, boolean left) {
        if (k < 0 || k > 3 || r < 0 || r > 2 || w < 0 || w > 40) {
            return OUTSIDE;
        }
        if (seen.size() == 6) {
            return FULL;
        }
        seen.add(new int[] {k, r, w, left ? 1 : 0});
        return seen.size();
    }

    private List<Integer> fitting() {
        List<Integer> fitting = new ArrayList<>();
        for (int s = 0; s <= 30; s++) {
            boolean fits = true;
            for (int[] row : seen) {
                int lag = new int[] {s, s + 9, s + row[1], s / 2}[row[0]];
                fits &= (lag > row[2] ? 1 : 0) == row[3];
            }
            if (fits) {
                fitting.add(s);
            }
        }
        return fitting;
    }

    public int truly(int what) {
        if (what < 0 || what > 2) {
            return OUTSIDE;
        }
        List<Integer> all = fitting();
        if (what == 0) {
            return all.size();
        }
        return all.isEmpty() ? NONE : all.get(what == 1 ? 0 : all.size() - 1);
    }

    public int tryNext() {
        List<Integer> all = fitting();
        int best = NONE;
        int bestPart = 0;
        for (int w = 40; w >= 0; w--) {
            int left = 0;
            for (int s : all) {
                left += s > w ? 1 : 0;
            }
            int part = Math.max(left, all.size() - left);
            if (left > 0 && left < all.size() && (best == NONE || part <= bestPart)) {
                best = w;
                bestPart = part;
            }
        }
        return best;
    }

    public int write(int c, int p) {
        if (noCoach(c) || nobody(p) && p != NONE) {
            return UNKNOWN;
        }
        if (roll.size() == 15) {
            return FULL;
        }
        roll.add(new int[] {c, p});
        return roll.size();
    }

    public int tear() {
        int both = seen.size() + roll.size();
        seen.clear();
        roll.clear();
        return both;
    }

    public int judge() {
        for (int i = 0; i < roll.size(); i++) {
            if (world.coaches.get(roll.get(i)[0]).owner != roll.get(i)[1]) {
                return i;
            }
        }
        return NONE;
    }

    // ---- draws, images

    public int seed(int v) {
        if (v < 0) {
            return OUTSIDE;
        }
        int was = (int) seed;
        seed = v;
        return was;
    }

    public int keep(int i) {
        if (i != 0 && i != 1) {
            return UNKNOWN;
        }
        images[i] = world.copy();
        imageSeeds[i] = seed;
        past.clear();
        return 1;
    }

    public int goBack(int i) {
        if (i != 0 && i != 1) {
            return UNKNOWN;
        }
        if (images[i] == null) {
            return NOT;
        }
        world = images[i].copy();
        seed = imageSeeds[i];
        past.clear();
        return 1;
    }
}
