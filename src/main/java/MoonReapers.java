import java.util.Arrays;

/** Reaping by moonlight. What each call answers is told by the document, promise by promise. */
public final class MoonReapers {
    public static final int BAD = -1, STATE = -2, FULL = -3, NONE = -4;

    private static final int TAPE_MOST = 160, BYTE_MOST = 127;
    private static final int STRIPS_MOST = 7, REAPERS_MOST = 4, OWNERS = 4;
    private static final int HOURS_MOST = 12, HOURS_AT_FIRST = 8;
    private static final int YARDS_MOST = 40, OIL_MOST = 9, EDGE_MOST = 3, WAGE_MOST = 99;
    private static final int TENTHS = 10;
    /** More than can be lost in any night. */
    private static final int ANY_LOSS = 1000000;
    private static final int SEEN_MOST = 8, PAID_MOST = 4, RUN_HOURS = 6;
    private static final int IMAGES = 2, SHEETS = 4, LANES = 3, CELLS_MOST = 40, READ_MOST = 20;
    private static final int FAULT_BASE = -10, BAD_PAIR_BASE = -20;
    private static final int FAULT_NULL = 1, FAULT_INDEX = 2, FAULT_CAST = 3, FAULT_SIZE = 4;
    /** What asks for something of a REAPER is this and his number. */
    private static final int OF_REAPER = 10;

    private final Reader reader = new Reader();
    private final State now = new State();
    private final Field field = now.field;
    private final State[] images = new State[IMAGES];
    private final Plan plan = new Plan();
    private final Hare hare = new Hare();
    private final Sheets sheets = new Sheets();
    /** Bits of the IMAGES that there are. */
    private int kept;
    private int lastFault;
    private int lastTorn;

    public MoonReapers() {
        for (int k = 0; k < IMAGES; k++) {
            images[k] = new State();
        }
    }

    // ---- the text

    public int feed(int c) {
        if (!isWithin(c, 0, BYTE_MOST)) {
            return BAD;
        }
        if (reader.length >= TAPE_MOST) {
            return FULL;
        }
        return reader.put(c);
    }

    public int end(int n) {
        int had = reader.length;
        if (!isWithin(n, 0, had)) {
            return BAD;
        }
        reader.length = n;
        return had;
    }

    public int text() {
        int lines = reader.readAll();
        lastFault = reader.fault;
        reader.length = 0;
        if (lastFault != 0) {
            return FAULT_BASE - reader.faultPlace;
        }
        field.copyFrom(reader.draft);
        now.seen.count = 0;
        now.paid.count = 0;
        kept = 0;
        return lines;
    }

    public int fault() {
        return lastFault;
    }

    public int rule(int what) {
        switch (what) {
            case 0:
                return field.hours;
            case 1:
                return field.hour;
            case 2:
                return field.clouds;
            case 3:
                return field.strips;
            case 4:
                return field.reapers;
            case 5:
                return field.bride;
            case 6:
                return field.standing();
            default:
                return BAD;
        }
    }

    public int strip(int i, int what) {
        if (!field.isStrip(i)) {
            return BAD;
        }
        switch (what) {
            case 0:
                return field.yards[i];
            case 1:
                return field.owner[i];
            case 2:
                return field.isThistly(i) ? 1 : 0;
            case 3:
                return field.reapersAt(i);
            default:
                return BAD;
        }
    }

    public int reaper(int r, int what) {
        return field.tellOf(r, what);
    }

    public int harvest(int o) {
        return isWithin(o, 0, OWNERS - 1) ? field.harvest[o] : BAD;
    }

    // ---- what is changed

    public int send(int r, int i) {
        if (!field.isReaper(r) || !field.isStrip(i)) {
            return BAD;
        }
        int was = field.at[r];
        field.at[r] = i;
        return was;
    }

    public int lend(int a, int b, int oil) {
        if (!field.isReaper(a) || !field.isReaper(b) || a == b || !isWithin(oil, 0, OIL_MOST)) {
            return BAD;
        }
        if (Math.abs(field.at[a] - field.at[b]) > 1 || field.oil[a] < oil) {
            return STATE;
        }
        if (field.oil[b] + oil > OIL_MOST) {
            return FULL;
        }
        field.oil[a] -= oil;
        field.oil[b] += oil;
        return field.oil[b];
    }

    public int whet(int r, int e) {
        if (!field.isReaper(r) || !isWithin(e, 0, EDGE_MOST)) {
            return BAD;
        }
        int was = field.edge[r];
        field.edge[r] = e;
        return was;
    }

    public int fill(int r, int v) {
        if (!field.isReaper(r) || !isWithin(v, 0, OIL_MOST)) {
            return BAD;
        }
        int was = field.oil[r];
        field.oil[r] = v;
        return was;
    }

    public int cloud(int t, boolean is) {
        if (!isWithin(t, 0, field.hours - 1)) {
            return BAD;
        }
        int was = field.isCloudy(t) ? 1 : 0;
        field.clouds = withBit(field.clouds, t, is);
        return was;
    }

    public int thistle(int i, boolean is) {
        if (!field.isStrip(i)) {
            return BAD;
        }
        int was = field.isThistly(i) ? 1 : 0;
        field.thistles = withBit(field.thistles, i, is);
        return was;
    }

    public int own(int i, int o) {
        if (!field.isStrip(i) || !isWithin(o, 0, OWNERS - 1)) {
            return BAD;
        }
        int was = field.owner[i];
        field.owner[i] = o;
        return was;
    }

    public int grow(int i, int y) {
        if (!field.isStrip(i) || !isWithin(y, 0, YARDS_MOST)) {
            return BAD;
        }
        int was = field.yards[i];
        field.yards[i] = y;
        return was;
    }

    // ---- hours

    public int go(int n) {
        if (!isWithin(n, 0, HOURS_MOST)) {
            return BAD;
        }
        if (n > field.hoursLeft()) {
            return FULL;
        }
        return field.pass(n);
    }

    public int ahead(int r, int n, int what) {
        if (!isWithin(n, 0, HOURS_MOST)) {
            return BAD;
        }
        return plan.after(field, n).tellOf(r, what);
    }

    public int stands(int i, int n) {
        if (!field.isStrip(i) || !isWithin(n, 0, HOURS_MOST)) {
            return BAD;
        }
        return plan.after(field, n).yards[i];
    }

    public int done(int what) {
        switch (what) {
            case 0:
                return plan.doneAfter(field);
            case 1:
                return plan.after(field, HOURS_MOST).bride;
            default:
                return BAD;
        }
    }

    public int left() {
        return plan.after(field, HOURS_MOST).standing();
    }

    // ---- where to begin, how much oil

    public int begin(int what) {
        if (what != 0 && !asksOfReaper(what)) {
            return BAD;
        }
        if (field.strips == 0 || field.reapers == 0) {
            return STATE;
        }
        int hours = plan.soonest(field);
        return what == 0 || hours == NONE ? hours : plan.chosenOf(what - OF_REAPER);
    }

    public int best(int r, int what) {
        if (!field.isReaper(r) || !isWithin(what, 0, 1)) {
            return BAD;
        }
        return plan.fewestStanding(field, r, what == 0);
    }

    public int oil(int r) {
        return field.isReaper(r) ? plan.leastOilOf(field, r) : BAD;
    }

    public int least(int what) {
        if (what != 0 && !asksOfReaper(what)) {
            return BAD;
        }
        int sum = plan.leastOilOfAll(field);
        return what == 0 || sum == NONE ? sum : plan.chosenOf(what - OF_REAPER);
    }

    // ---- clouds by odds

    public long luck(int v, int what) {
        if (!isWithin(v, 0, TENTHS) || !isWithin(what, 0, 1)) {
            return BAD;
        }
        long part = plan.weightDone(field, v);
        long whole = tenTo(field.hoursLeft());
        long shared = commonDivisor(whole, part);
        if (shared <= 0) {
            return BAD;
        }
        return what == 0 ? part / shared : whole / shared;
    }

    // ---- the hare

    public int see(int n, int i, boolean is) {
        if (!isWithin(n, 0, RUN_HOURS) || !field.isStrip(i)) {
            return BAD;
        }
        return now.seen.add(n, i, is);
    }

    public int forget(int n) {
        int had = now.seen.count;
        if (!isWithin(n, 0, had)) {
            return BAD;
        }
        now.seen.count = n;
        return had;
    }

    public int hare(int n) {
        if (!isWithin(n, 0, RUN_HOURS)) {
            return BAD;
        }
        hare.countRuns(now.seen, field.strips);
        int where = 0;
        for (int i = 0; i < field.strips; i++) {
            where = withBit(where, i, hare.runsThrough(n, i) > 0);
        }
        return where;
    }

    public int runs() {
        hare.countRuns(now.seen, field.strips);
        return hare.allRuns();
    }

    public int look(int n, int what) {
        if (!isWithin(n, 0, RUN_HOURS) || !isWithin(what, 0, 1)) {
            return BAD;
        }
        hare.countRuns(now.seen, field.strips);
        return hare.bestLook(n, what == 0);
    }

    // ---- who began where

    public int pay(int r, int wage) {
        if (!field.isReaper(r) || !isWithin(wage, 0, WAGE_MOST)) {
            return BAD;
        }
        return now.paid.add(r, wage);
    }

    public int owe(int n) {
        int had = now.paid.count;
        if (!isWithin(n, 0, had)) {
            return BAD;
        }
        now.paid.count = n;
        return had;
    }

    public int fits(int what) {
        if (what != 0 && !asksOfReaper(what)) {
            return BAD;
        }
        int fitting = plan.countFitting(field, now.paid);
        return what == 0 ? fitting : plan.chosenOf(what - OF_REAPER);
    }

    // ---- by a seed

    public int drift(int seed, int v, int what) {
        if (!isWithin(v, 0, TENTHS) || !isWithin(what, 0, 1)) {
            return BAD;
        }
        Field then = plan.afterDrift(field, seed, v);
        return what == 0 ? then.standing() : then.allOil();
    }

    // ---- images, sheets

    public int keep(int k) {
        if (!isWithin(k, 0, IMAGES - 1)) {
            return BAD;
        }
        int was = kept >> k & 1;
        images[k].copyFrom(now);
        kept = withBit(kept, k, true);
        return was;
    }

    public int back(int k) {
        if (!isWithin(k, 0, IMAGES - 1)) {
            return BAD;
        }
        if ((kept >> k & 1) == 0) {
            return STATE;
        }
        now.copyFrom(images[k]);
        return field.hour;
    }

    public int sheet(int k, int lane, int n) {
        if (!isWithin(k, 0, SHEETS - 1) || !isWithin(lane, 0, LANES - 1) || n > CELLS_MOST) {
            return BAD;
        }
        if (n < 0) {
            return FAULT_BASE - FAULT_SIZE;
        }
        sheets.renew(k, lane, n);
        return 1;
    }

    public int lay(int k, int i, int v) {
        if (!isWithin(k, 0, SHEETS - 1)) {
            return BAD;
        }
        if (sheets.isNothing(k)) {
            return FAULT_BASE - FAULT_NULL;
        }
        if (!sheets.hasCell(k, i)) {
            return FAULT_BASE - FAULT_INDEX;
        }
        sheets.put(k, i, v);
        return 1;
    }

    public int read(int k, int lane, int f, int n) {
        if (!isWithin(k, 0, SHEETS - 1) || !isWithin(lane, 0, LANES - 1) || !isWithin(n, 0, READ_MOST)) {
            return BAD;
        }
        int whole = sheets.isOfLane(k, lane) ? sheets.wholePairs(k, f, n) : 0;
        for (int j = 0; j < whole; j++) {
            if (!field.isReaper(sheets.cell(k, f + 2 * j)) || !field.isStrip(sheets.cell(k, f + 2 * j + 1))) {
                return BAD_PAIR_BASE - j;
            }
        }
        for (int j = 0; j < whole; j++) {
            send(sheets.cell(k, f + 2 * j), sheets.cell(k, f + 2 * j + 1));
        }
        lastTorn = sheets.faultOfReading(k, lane, n, whole);
        return whole;
    }

    public int torn() {
        return lastTorn;
    }

    public int count(int what) {
        switch (what) {
            case 0:
                return field.stripsWithYards();
            case 1:
                return field.allWages();
            case 2:
                return field.allOil();
            case 3:
                return now.seen.count;
            case 4:
                return now.paid.count;
            case 5:
                return Integer.bitCount(kept);
            case 6:
                return reader.length;
            case 7:
                return sheets.isNothing(0) ? NONE : sheets.sizeOf(0);
            default:
                return BAD;
        }
    }

    private boolean asksOfReaper(int what) {
        return what >= OF_REAPER && what - OF_REAPER < field.reapers;
    }

    private static boolean isWithin(int n, int low, int high) {
        return n >= low && n <= high;
    }

    private static int withBit(int bits, int i, boolean is) {
        return is ? bits | 1 << i : bits & ~(1 << i);
    }

    private static long tenTo(int n) {
        long power = 1;
        for (int k = 0; k < n && k < HOURS_MOST; k++) {
            power *= TENTHS;
        }
        return power;
    }

    /** Euclid's; 64 steps are more than numbers up to 10 to the 12th can need. */
    private static long commonDivisor(long a, long b) {
        long x = a;
        long y = b;
        for (int k = 0; k < 64 && y != 0; k++) {
            long rest = x % y;
            x = y;
            y = rest;
        }
        return x;
    }

    /** All that the text tells and that the HOURS change. */
    private static final class Field {
        int hours = HOURS_AT_FIRST;
        int hour;
        int clouds;
        int bride = NONE;
        int strips;
        int reapers;
        int thistles;
        final int[] yards = new int[STRIPS_MOST];
        final int[] owner = new int[STRIPS_MOST];
        final int[] pace = new int[REAPERS_MOST];
        final int[] oil = new int[REAPERS_MOST];
        final int[] edge = new int[REAPERS_MOST];
        final int[] at = new int[REAPERS_MOST];
        final int[] wage = new int[REAPERS_MOST];
        final int[] harvest = new int[OWNERS];
        /** How many YARDS those who cut were short of their PACES, since passUntilDone began. */
        private int lost;

        /** Strips and reapers of before need no wiping: adding one writes all that it has. */
        void clear() {
            hours = HOURS_AT_FIRST;
            hour = 0;
            clouds = 0;
            bride = NONE;
            strips = 0;
            reapers = 0;
            thistles = 0;
            Arrays.fill(harvest, 0);
        }

        void copyFrom(Field other) {
            hours = other.hours;
            hour = other.hour;
            clouds = other.clouds;
            bride = other.bride;
            strips = other.strips;
            reapers = other.reapers;
            thistles = other.thistles;
            System.arraycopy(other.yards, 0, yards, 0, STRIPS_MOST);
            System.arraycopy(other.owner, 0, owner, 0, STRIPS_MOST);
            System.arraycopy(other.pace, 0, pace, 0, REAPERS_MOST);
            System.arraycopy(other.oil, 0, oil, 0, REAPERS_MOST);
            System.arraycopy(other.edge, 0, edge, 0, REAPERS_MOST);
            System.arraycopy(other.at, 0, at, 0, REAPERS_MOST);
            System.arraycopy(other.wage, 0, wage, 0, REAPERS_MOST);
            System.arraycopy(other.harvest, 0, harvest, 0, OWNERS);
        }

        void addStrip(int y, int o) {
            if (strips < STRIPS_MOST) {
                yards[strips] = y;
                owner[strips] = o;
                strips++;
            }
        }

        void addReaper(int p, int v, int i) {
            if (reapers < REAPERS_MOST) {
                pace[reapers] = p;
                oil[reapers] = v;
                edge[reapers] = EDGE_MOST;
                at[reapers] = i;
                wage[reapers] = 0;
                reapers++;
            }
        }

        boolean isStrip(int i) {
            return i >= 0 && i < strips;
        }

        boolean isReaper(int r) {
            return r >= 0 && r < reapers;
        }

        boolean isThistly(int i) {
            return (thistles >> i & 1) != 0;
        }

        boolean isCloudy(int t) {
            return (clouds >> t & 1) != 0;
        }

        int hoursLeft() {
            return hours - hour;
        }

        int tellOf(int r, int what) {
            if (!isReaper(r)) {
                return BAD;
            }
            switch (what) {
                case 0:
                    return pace[r];
                case 1:
                    return oil[r];
                case 2:
                    return edge[r];
                case 3:
                    return at[r];
                case 4:
                    return wage[r];
                default:
                    return BAD;
            }
        }

        int reapersAt(int i) {
            int who = 0;
            for (int r = 0; r < reapers; r++) {
                who = withBit(who, r, at[r] == i);
            }
            return who;
        }

        int standing() {
            int sum = 0;
            for (int i = 0; i < strips; i++) {
                sum += yards[i];
            }
            return sum;
        }

        int stripsWithYards() {
            int n = 0;
            for (int i = 0; i < strips; i++) {
                if (yards[i] > 0) {
                    n++;
                }
            }
            return n;
        }

        int allOil() {
            return sumOfReapers(oil);
        }

        int allWages() {
            return sumOfReapers(wage);
        }

        int allPaces() {
            return sumOfReapers(pace);
        }

        private int sumOfReapers(int[] row) {
            int sum = 0;
            for (int r = 0; r < reapers && r < row.length; r++) {
                sum += row[r];
            }
            return sum;
        }

        int cloudyHoursLeft() {
            int n = 0;
            for (int t = hour; t < hours; t++) {
                if (isCloudy(t)) {
                    n++;
                }
            }
            return n;
        }

        /** n HOURS, or fewer where THE NIGHT ends: YARDS that are cut. */
        int pass(int n) {
            int cut = 0;
            for (int k = 0; k < n && hour < hours; k++) {
                cut += passHour(isCloudy(hour));
            }
            return cut;
        }

        /** Whether there are CLOUDS is told by the caller, who may put others in place of those told. */
        int passHour(boolean cloudy) {
            int cut = 0;
            for (int r = 0; r < reapers; r++) {
                cut += work(r, cloudy);
            }
            hour++;
            return cut;
        }

        private int work(int r, boolean cloudy) {
            int i = nearestWithYards(at[r]);
            if (i < 0 || i >= strips) {
                return 0;
            }
            at[r] = i;
            if (edge[r] == 0) {
                edge[r] = EDGE_MOST;
                return 0;
            }
            if (cloudy && oil[r] == 0) {
                return 0;
            }
            edge[r]--;
            if (cloudy) {
                oil[r]--;
            }
            return cut(r, i);
        }

        private int cut(int r, int i) {
            int most = isThistly(i) ? (pace[r] + 1) / 2 : pace[r];
            int n = Math.min(most, yards[i]);
            yards[i] -= n;
            wage[r] += n;
            lost += pace[r] - n;
            bride = r;
            int o = owner[i];
            if (o >= 0 && o < OWNERS) {
                harvest[o] += n;
            }
            return n;
        }

        /** The lesser side is looked at first at each distance, so it wins among two. */
        private int nearestWithYards(int from) {
            for (int d = 0; d < STRIPS_MOST; d++) {
                int below = from - d;
                if (below >= 0 && below < strips && yards[below] > 0) {
                    return below;
                }
                int above = from + d;
                if (above >= 0 && above < strips && yards[above] > 0) {
                    return above;
                }
            }
            return NONE;
        }

        /**
         * Passes HOURS until it is DONE, so many at the most: how many these were; NONE: it is not DONE by then.
         * Given up as soon as more is lost than can be spared.
         */
        int passUntilDone(int most, int spare) {
            int rest = standing();
            lost = 0;
            for (int k = 0; k < most && rest > 0 && lost <= spare && hour < hours; k++) {
                rest -= passHour(isCloudy(hour));
                if (rest == 0) {
                    return k + 1;
                }
            }
            return rest == 0 ? 0 : NONE;
        }

        /**
         * How often a REAPER with so much OIL would cut in the next n HOURS if YARDS stood all the time.
         * As long as any stand he finds some, so this does not depend on where anybody is.
         */
        int cutsAhead(int r, int withOil, int n) {
            int sharp = edge[r];
            int burning = withOil;
            int cuts = 0;
            for (int t = hour; t < hours && t - hour < n; t++) {
                boolean cloudy = isCloudy(t);
                if (sharp == 0) {
                    sharp = EDGE_MOST;
                } else if (!cloudy || burning > 0) {
                    sharp--;
                    cuts++;
                    if (cloudy) {
                        burning--;
                    }
                }
            }
            return cuts;
        }
    }

    /** What was SEEN of THE HARE. */
    private static final class Seen {
        int count;
        final int[] behind = new int[SEEN_MOST];
        final int[] strip = new int[SEEN_MOST];
        /** 1: it is there; 0: it is not. */
        final int[] there = new int[SEEN_MOST];

        int add(int n, int i, boolean is) {
            if (count >= SEEN_MOST) {
                return FULL;
            }
            behind[count] = n;
            strip[count] = i;
            there[count] = is ? 1 : 0;
            count++;
            return count;
        }

        void copyFrom(Seen other) {
            count = other.count;
            System.arraycopy(other.behind, 0, behind, 0, SEEN_MOST);
            System.arraycopy(other.strip, 0, strip, 0, SEEN_MOST);
            System.arraycopy(other.there, 0, there, 0, SEEN_MOST);
        }

        /** Whether a run may be on a STRIP behind n HOURS. */
        boolean allows(int n, int i) {
            for (int k = 0; k < count; k++) {
                int as = strip[k] == i ? 1 : 0;
                if (behind[k] == n && as != there[k]) {
                    return false;
                }
            }
            return true;
        }
    }

    /** What was PAID. */
    private static final class Paid {
        int count;
        final int[] reaper = new int[PAID_MOST];
        final int[] wage = new int[PAID_MOST];

        int add(int r, int w) {
            if (count >= PAID_MOST) {
                return FULL;
            }
            reaper[count] = r;
            wage[count] = w;
            count++;
            return count;
        }

        void copyFrom(Paid other) {
            count = other.count;
            System.arraycopy(other.reaper, 0, reaper, 0, PAID_MOST);
            System.arraycopy(other.wage, 0, wage, 0, PAID_MOST);
        }

        boolean isAsPaid(Field then) {
            for (int k = 0; k < count; k++) {
                int r = reaper[k];
                if (!then.isReaper(r) || then.wage[r] != wage[k]) {
                    return false;
                }
            }
            return true;
        }
    }

    /** What an IMAGE holds. */
    private static final class State {
        final Field field = new Field();
        final Seen seen = new Seen();
        final Paid paid = new Paid();

        void copyFrom(State other) {
            field.copyFrom(other.field);
            seen.copyFrom(other.seen);
            paid.copyFrom(other.paid);
        }
    }

    /** THE TAPE, and the text on it read into a draft, so that a FAULT leaves what was told. */
    private static final class Reader {
        private static final int END = 0, NAME = 1, NUMBER = 2, STOP = 3, FLAW = 4;
        private static final int NO_LINE = -1, NIGHT = 0, STRIP = 1, REAPER = 2, CLOUD = 3, THISTLE = 4;
        private static final int NUMBERS_MOST = 3, FIGURES_MOST = 2;
        /** By kind of line; LOW and HIGH hold NUMBERS_MOST places for each. */
        private static final int[] NUMBERS = {1, 2, 3, 1, 1};
        private static final int[] LOW = {1, 0, 0, 0, 0, 0, 1, 0, 0, 0, 0, 0, 0, 0, 0};
        private static final int[] HIGH = {12, 0, 0, 40, 3, 0, 9, 9, 6, 11, 0, 0, 6, 0, 0};

        final byte[] tape = new byte[TAPE_MOST];
        int length;
        final Field draft = new Field();
        int fault;
        int faultPlace;
        private boolean nightTold;
        private final int[] told = new int[NUMBERS_MOST];
        /** The TOKEN that was read last: its kind, its first place and the one behind it, its value. */
        private int kind;
        private int first;
        private int behind;
        private int value;

        int put(int c) {
            if (length < TAPE_MOST) {
                tape[length] = (byte) c;
                length++;
            }
            return length;
        }

        /** How many lines there are; a FAULT stands in fault and faultPlace. */
        int readAll() {
            draft.clear();
            nightTold = false;
            fault = 0;
            faultPlace = 0;
            behind = 0;
            int lines = 0;
            for (int k = 0; k <= TAPE_MOST && fault == 0; k++) {
                readToken();
                if (kind == END) {
                    break;
                }
                readLine();
                lines++;
            }
            if (fault == 0 && tellsOfWhatIsNot()) {
                fail(6, length);
            }
            return lines;
        }

        /** The first FAULT is the one that counts. */
        private void fail(int number, int place) {
            if (fault == 0) {
                fault = number;
                faultPlace = place;
            }
        }

        private boolean tellsOfWhatIsNot() {
            for (int r = 0; r < draft.reapers; r++) {
                if (!draft.isStrip(draft.at[r])) {
                    return true;
                }
            }
            return draft.clouds >> draft.hours != 0 || draft.thistles >> draft.strips != 0;
        }

        private void readLine() {
            int line = kind == NAME ? lineOfName() : NO_LINE;
            if (line == NO_LINE) {
                fail(2, first);
                return;
            }
            beginLine(line);
            int numbers = NUMBERS[line];
            for (int k = 0; k < numbers && fault == 0; k++) {
                readNumber(line, k);
            }
            if (fault == 0) {
                readToken();
                if (kind != STOP) {
                    fail(2, first);
                }
            }
            if (fault == 0) {
                takeLine(line);
            }
        }

        /** FAULTS that are met at the NAME already. */
        private void beginLine(int line) {
            if (line == NIGHT && nightTold) {
                fail(4, first);
            }
            if (line == STRIP && draft.strips >= STRIPS_MOST || line == REAPER && draft.reapers >= REAPERS_MOST) {
                fail(5, first);
            }
        }

        private void readNumber(int line, int k) {
            readToken();
            if (kind != NUMBER) {
                fail(2, first);
                return;
            }
            int bounds = line * NUMBERS_MOST + k;
            if (bounds < 0 || bounds >= LOW.length || bounds >= HIGH.length || k >= NUMBERS_MOST) {
                return;
            }
            if (value < LOW[bounds] || value > HIGH[bounds]) {
                fail(3, first);
                return;
            }
            if (line == CLOUD && draft.isCloudy(value) || line == THISTLE && draft.isThistly(value)) {
                fail(4, first);
            }
            told[k] = value;
        }

        private void takeLine(int line) {
            switch (line) {
                case NIGHT:
                    draft.hours = told[0];
                    nightTold = true;
                    break;
                case STRIP:
                    draft.addStrip(told[0], told[1]);
                    break;
                case REAPER:
                    draft.addReaper(told[0], told[1], told[2]);
                    break;
                case CLOUD:
                    draft.clouds = withBit(draft.clouds, told[0], true);
                    break;
                default:
                    draft.thistles = withBit(draft.thistles, told[0], true);
                    break;
            }
        }

        private int lineOfName() {
            for (int line = NIGHT; line <= THISTLE; line++) {
                if (isName(nameOf(line))) {
                    return line;
                }
            }
            return NO_LINE;
        }

        private static String nameOf(int line) {
            switch (line) {
                case NIGHT:
                    return "night";
                case STRIP:
                    return "strip";
                case REAPER:
                    return "reaper";
                case CLOUD:
                    return "cloud";
                default:
                    return "thistle";
            }
        }

        private boolean isName(String name) {
            if (behind - first != name.length()) {
                return false;
            }
            for (int k = 0; k < name.length(); k++) {
                if (byteAt(first + k) != name.charAt(k)) {
                    return false;
                }
            }
            return true;
        }

        /** BAD behind the last byte: no TOKEN has such a byte. */
        private int byteAt(int place) {
            return place >= 0 && place < length && place < TAPE_MOST ? tape[place] : BAD;
        }

        private void readToken() {
            first = behind;
            while (byteAt(first) == ' ' && first < length) {
                first++;
            }
            behind = first + 1;
            int c = byteAt(first);
            if (first >= length) {
                kind = END;
            } else if (isLetter(c)) {
                kind = NAME;
                while (behind < length && isLetter(byteAt(behind))) {
                    behind++;
                }
            } else if (isFigure(c)) {
                readFigures();
            } else if (c == ';') {
                kind = STOP;
            } else {
                kind = FLAW;
                fail(1, first);
            }
        }

        private void readFigures() {
            kind = NUMBER;
            value = byteAt(first) - '0';
            while (behind < length && isFigure(byteAt(behind))) {
                value = value * 10 + byteAt(behind) - '0';
                behind++;
            }
            if (behind - first > FIGURES_MOST) {
                kind = FLAW;
                fail(1, first);
            }
        }

        private static boolean isLetter(int c) {
            return c >= 'a' && c <= 'z';
        }

        private static boolean isFigure(int c) {
            return c >= '0' && c <= '9';
        }
    }

    /** Nights that are thought through on a trial field, so that nothing changes. */
    private static final class Plan {
        private static final int BEGINNINGS_MOST = 2401, OILS = 10, OIL_CHOICES_MOST = 10000;
        /** What luck saves of a trial at each HOUR: the HOUR, YARDS, and of each REAPER STRIP, EDGE, OIL. */
        private static final int SAVED = 1 + STRIPS_MOST + 3 * REAPERS_MOST;

        private final Field trial = new Field();
        /** One number a REAPER that is tried now, the highest that he can have, and what was chosen. */
        private final int[] pick = new int[REAPERS_MOST];
        private final int[] top = new int[REAPERS_MOST];
        private final int[] chosen = new int[REAPERS_MOST];
        /** The most that all can cut in so many HOURS, and one REAPER by so much OIL: wherever they are. */
        private final int[] reach = new int[HOURS_MOST + 1];
        private final int[][] mostCut = new int[REAPERS_MOST][OILS];
        private final int[][] saved = new int[HOURS_MOST][SAVED];

        int chosenOf(int r) {
            return r >= 0 && r < REAPERS_MOST ? chosen[r] : BAD;
        }

        Field after(Field now, int n) {
            trial.copyFrom(now);
            trial.pass(n);
            return trial;
        }

        int doneAfter(Field now) {
            trial.copyFrom(now);
            return trial.passUntilDone(HOURS_MOST, ANY_LOSS);
        }

        Field afterDrift(Field now, int seed, int v) {
            trial.copyFrom(now);
            int left = now.hoursLeft();
            int s = seed;
            for (int k = 0; k < left; k++) {
                s = s * 1103515245 + 12345;
                trial.passHour((s >>> 16 & 0x7fff) % TENTHS < v);
            }
            return trial;
        }

        /** In how many HOURS the soonest BEGINNING is DONE, or NONE; the STRIPS are chosen. */
        int soonest(Field now) {
            countReach(now);
            startPicks(now.strips - 1);
            int stand = now.standing();
            int best = NONE;
            int most = now.hoursLeft();
            for (int k = 0; k < BEGINNINGS_MOST && isInReach(stand, most); k++) {
                beginAsPicked(now);
                int hours = trial.passUntilDone(most, reach[most] - stand);
                if (hours != NONE) {
                    best = hours;
                    choosePicks();
                    most = hours - 1;
                }
                if (!turnPicks(now.reapers)) {
                    break;
                }
            }
            return best;
        }

        private void countReach(Field now) {
            for (int n = 0; n <= HOURS_MOST; n++) {
                reach[n] = 0;
                for (int r = 0; r < now.reapers; r++) {
                    reach[n] += now.pace[r] * now.cutsAhead(r, now.oil[r], n);
                }
            }
        }

        private boolean isInReach(int stand, int n) {
            return n >= 0 && n <= HOURS_MOST && reach[n] >= stand;
        }

        /** BEGINNINGS that FIT: how many; the STRIPS of each REAPER by them are chosen, as bits. */
        int countFitting(Field now, Paid paid) {
            startPicks(now.strips - 1);
            Arrays.fill(chosen, 0);
            int fitting = 0;
            for (int k = 0; k < BEGINNINGS_MOST; k++) {
                if (isFitting(now, paid)) {
                    fitting++;
                    for (int r = 0; r < now.reapers; r++) {
                        chosen[r] = withBit(chosen[r], pick[r], true);
                    }
                }
                if (!turnPicks(now.reapers)) {
                    break;
                }
            }
            return fitting;
        }

        /** Behind DONE no WAGE changes, so the night need not be thought to its end. */
        private boolean isFitting(Field now, Paid paid) {
            if (paid.count == 0) {
                return true;
            }
            beginAsPicked(now);
            trial.passUntilDone(HOURS_MOST, ANY_LOSS);
            return paid.isAsPaid(trial);
        }

        private void beginAsPicked(Field now) {
            trial.copyFrom(now);
            System.arraycopy(pick, 0, trial.at, 0, REAPERS_MOST);
        }

        private void startPicks(int highest) {
            Arrays.fill(pick, 0);
            Arrays.fill(top, highest);
        }

        private void choosePicks() {
            System.arraycopy(pick, 0, chosen, 0, REAPERS_MOST);
        }

        /** The next one in order, the last REAPER's number turning first; false: all were there. */
        private boolean turnPicks(int reapers) {
            for (int r = Math.min(reapers, REAPERS_MOST) - 1; r >= 0; r--) {
                if (pick[r] < top[r]) {
                    pick[r]++;
                    return true;
                }
                pick[r] = 0;
            }
            return false;
        }

        /** The first STRIP that leaves fewest YARDS, or how many YARDS these are. */
        int fewestStanding(Field now, int r, boolean where) {
            int best = NONE;
            int fewest = 0;
            for (int i = 0; i < now.strips; i++) {
                trial.copyFrom(now);
                if (trial.isReaper(r)) {
                    trial.at[r] = i;
                }
                trial.passUntilDone(HOURS_MOST, ANY_LOSS);
                int stand = trial.standing();
                if (best == NONE || stand < fewest) {
                    best = i;
                    fewest = stand;
                }
            }
            return where ? best : fewest;
        }

        int leastOilOf(Field now, int r) {
            for (int v = 0; v <= OIL_MOST; v++) {
                trial.copyFrom(now);
                if (trial.isReaper(r)) {
                    trial.oil[r] = v;
                }
                if (trial.passUntilDone(HOURS_MOST, ANY_LOSS) != NONE) {
                    return v;
                }
            }
            return NONE;
        }

        /** The least sum, or NONE; how much each has is chosen. */
        int leastOilOfAll(Field now) {
            // more OIL than HOURS with CLOUDS changes nothing, so it is never the least
            startPicks(Math.min(OIL_MOST, now.cloudyHoursLeft()));
            countMostCut(now);
            int stand = now.standing();
            int best = NONE;
            for (int k = 0; k < OIL_CHOICES_MOST; k++) {
                int sum = sumOfPicks(now.reapers);
                // in this order the first of equal sums comes first, so only a lesser one takes its place
                if ((best == NONE || sum < best) && isDoneByPicks(now, mostCutByPicks(now.reapers) - stand)) {
                    best = sum;
                    choosePicks();
                }
                if (best == 0 || !turnPicks(now.reapers)) {
                    break;
                }
            }
            return best;
        }

        private void countMostCut(Field now) {
            for (int r = 0; r < now.reapers; r++) {
                for (int v = 0; v < OILS; v++) {
                    mostCut[r][v] = now.pace[r] * now.cutsAhead(r, v, HOURS_MOST);
                }
            }
        }

        private int mostCutByPicks(int reapers) {
            int most = 0;
            for (int r = 0; r < reapers; r++) {
                int v = pick[r];
                if (v >= 0 && v < OILS) {
                    most += mostCut[r][v];
                }
            }
            return most;
        }

        private int sumOfPicks(int reapers) {
            int sum = 0;
            for (int r = 0; r < reapers; r++) {
                sum += pick[r];
            }
            return sum;
        }

        private boolean isDoneByPicks(Field now, int spare) {
            if (spare < 0) {
                return false;
            }
            trial.copyFrom(now);
            System.arraycopy(pick, 0, trial.oil, 0, REAPERS_MOST);
            return trial.passUntilDone(HOURS_MOST, spare) != NONE;
        }

        /** How many of the 10 to the HOURS left equal chances have it DONE, CLOUDS having v of ten. */
        long weightDone(Field now, int v) {
            trial.copyFrom(now);
            return weightFrom(0, v);
        }

        /** Leaves the trial somewhere ahead: who needs it again has saved it. */
        private long weightFrom(int depth, int v) {
            int stand = trial.standing();
            int left = trial.hoursLeft();
            if (stand == 0) {
                return tenTo(left);
            }
            if (depth >= HOURS_MOST || left <= 0 || stand > left * trial.allPaces()) {
                return 0;
            }
            int[] here = saved[depth];
            save(here);
            long weight = 0;
            if (v > 0) {
                trial.passHour(true);
                weight += v * weightFrom(depth + 1, v);
                restore(here);
            }
            if (v < TENTHS) {
                trial.passHour(false);
                weight += (TENTHS - v) * weightFrom(depth + 1, v);
            }
            return weight;
        }

        private void save(int[] row) {
            row[0] = trial.hour;
            System.arraycopy(trial.yards, 0, row, 1, STRIPS_MOST);
            System.arraycopy(trial.at, 0, row, 1 + STRIPS_MOST, REAPERS_MOST);
            System.arraycopy(trial.edge, 0, row, 1 + STRIPS_MOST + REAPERS_MOST, REAPERS_MOST);
            System.arraycopy(trial.oil, 0, row, 1 + STRIPS_MOST + 2 * REAPERS_MOST, REAPERS_MOST);
        }

        private void restore(int[] row) {
            trial.hour = row[0];
            System.arraycopy(row, 1, trial.yards, 0, STRIPS_MOST);
            System.arraycopy(row, 1 + STRIPS_MOST, trial.at, 0, REAPERS_MOST);
            System.arraycopy(row, 1 + STRIPS_MOST + REAPERS_MOST, trial.edge, 0, REAPERS_MOST);
            System.arraycopy(row, 1 + STRIPS_MOST + 2 * REAPERS_MOST, trial.oil, 0, REAPERS_MOST);
        }
    }

    /** Runs of THE HARE that are as all that was SEEN, counted by where they are at each HOUR. */
    private static final class Hare {
        private int strips;
        /** By HOUR and STRIP: how many ways a run can come there, and go on from there. */
        private final int[][] coming = new int[RUN_HOURS + 1][STRIPS_MOST];
        private final int[][] going = new int[RUN_HOURS + 1][STRIPS_MOST];

        void countRuns(Seen seen, int stripsNow) {
            strips = Math.min(stripsNow, STRIPS_MOST);
            for (int n = 0; n <= RUN_HOURS; n++) {
                for (int i = 0; i < strips; i++) {
                    coming[n][i] = !seen.allows(n, i) ? 0 : n == 0 ? 1 : besides(coming[n - 1], i);
                }
            }
            for (int n = RUN_HOURS; n >= 0; n--) {
                for (int i = 0; i < strips; i++) {
                    going[n][i] = !seen.allows(n, i) ? 0 : n == RUN_HOURS ? 1 : besides(going[n + 1], i);
                }
            }
        }

        /** The ways of a STRIP and of those next to it. */
        private int besides(int[] ways, int i) {
            int sum = 0;
            for (int j = Math.max(0, i - 1); j <= i + 1 && j < strips; j++) {
                sum += ways[j];
            }
            return sum;
        }

        int runsThrough(int n, int i) {
            if (n < 0 || n > RUN_HOURS || i < 0 || i >= strips) {
                return 0;
            }
            return coming[n][i] * going[n][i];
        }

        int allRuns() {
            int sum = 0;
            for (int i = 0; i < strips; i++) {
                sum += coming[RUN_HOURS][i];
            }
            return sum;
        }

        /** The first STRIP by which fewest runs are left at the worst, or how many runs these are. */
        int bestLook(int n, boolean where) {
            int all = allRuns();
            int best = NONE;
            int fewest = all;
            for (int i = 0; i < strips; i++) {
                int there = runsThrough(n, i);
                int worst = Math.max(there, all - there);
                if (worst < fewest) {
                    best = i;
                    fewest = worst;
                }
            }
            return where || best == NONE ? best : fewest;
        }
    }

    /** SHEETS; CELLS of every lane are held as ints, cut to the lane when they are laid. */
    private static final class Sheets {
        private static final int BYTES = 0, SHORTS = 1;

        private final int[][] cells = new int[SHEETS][CELLS_MOST];
        private final int[] lanes = new int[SHEETS];
        /** Below 0: nothing. */
        private final int[] sizes = new int[SHEETS];

        Sheets() {
            Arrays.fill(sizes, NONE);
        }

        private static boolean isSheet(int k) {
            return k >= 0 && k < SHEETS;
        }

        boolean isNothing(int k) {
            return !isSheet(k) || sizes[k] < 0;
        }

        int sizeOf(int k) {
            return isNothing(k) ? 0 : sizes[k];
        }

        boolean hasCell(int k, int i) {
            return i >= 0 && i < sizeOf(k) && i < CELLS_MOST;
        }

        boolean isOfLane(int k, int lane) {
            return !isNothing(k) && lanes[k] == lane;
        }

        void renew(int k, int lane, int n) {
            if (isSheet(k)) {
                lanes[k] = lane;
                sizes[k] = n;
                Arrays.fill(cells[k], 0);
            }
        }

        void put(int k, int i, int v) {
            if (!hasCell(k, i)) {
                return;
            }
            if (lanes[k] == BYTES) {
                cells[k][i] = (byte) v;
            } else if (lanes[k] == SHORTS) {
                cells[k][i] = (short) v;
            } else {
                cells[k][i] = v;
            }
        }

        int cell(int k, int i) {
            return hasCell(k, i) ? cells[k][i] : BAD;
        }

        /** Of n pairs from CELL f on, how many are whole ahead of the first that is not. */
        int wholePairs(int k, int f, int n) {
            for (int j = 0; j < n; j++) {
                if (!hasCell(k, f + 2 * j) || !hasCell(k, f + 2 * j + 1)) {
                    return j;
                }
            }
            return n;
        }

        /** A SHEET is taken as of a lane even where no CELL is read; nothing passes as of any lane. */
        int faultOfReading(int k, int lane, int n, int whole) {
            if (!isNothing(k) && !isOfLane(k, lane)) {
                return FAULT_CAST;
            }
            if (whole == n) {
                return 0;
            }
            return isNothing(k) ? FAULT_NULL : FAULT_INDEX;
        }
    }
}
