import java.math.BigInteger;
import java.util.ArrayList;
import java.util.List;
import java.util.function.Predicate;

/**
 * The document said a second time, in the dullest way there is: everything is tried, nothing is cut short, and the
 * faults of sheets are those that the machine really throws. ModelTest holds the class against it.
 */
public final class Model {
    private static final int BAD = -1, STATE = -2, FULL = -3, NONE = -4;

    private record Strip(int yards, int owner, boolean thistles) { }

    private record Reaper(int pace, int oil, int edge, int strip, int wage) { }

    private record Sight(int n, int i, boolean is) { }

    private record Wage(int r, int wage) { }

    /** The night as it is; the lists are copied whenever they change hands. */
    private static final class Night {
        int hours = 8;
        int hour = 0;
        boolean[] clouds = new boolean[12];
        List<Strip> strips = new ArrayList<>();
        List<Reaper> reapers = new ArrayList<>();
        int[] harvests = new int[4];
        int bride = NONE;
        List<Sight> seen = new ArrayList<>();
        List<Wage> paid = new ArrayList<>();

        Night copy() {
            Night c = new Night();
            c.hours = hours;
            c.hour = hour;
            c.clouds = clouds.clone();
            c.strips = new ArrayList<>(strips);
            c.reapers = new ArrayList<>(reapers);
            c.harvests = harvests.clone();
            c.bride = bride;
            c.seen = new ArrayList<>(seen);
            c.paid = new ArrayList<>(paid);
            return c;
        }

        int yards() {
            return strips.stream().mapToInt(Strip::yards).sum();
        }

        int where(int from) {
            if (strips.get(from).yards > 0) {
                return from;
            }
            int best = -1;
            for (int i = 0; i < strips.size(); i++) {
                if (strips.get(i).yards > 0 && (best < 0 || Math.abs(i - from) < Math.abs(best - from))) {
                    best = i;
                }
            }
            return best;
        }

        void passHour() {
            if (hour >= hours) {
                return;
            }
            for (int r = 0; r < reapers.size(); r++) {
                Reaper x = reapers.get(r);
                int i = where(x.strip);
                if (i < 0) {
                    continue;
                }
                reapers.set(r, workAt(r, new Reaper(x.pace, x.oil, x.edge, i, x.wage)));
            }
            hour++;
        }

        Reaper workAt(int r, Reaper x) {
            if (x.edge == 0) {
                return new Reaper(x.pace, x.oil, 3, x.strip, x.wage);
            }
            boolean dark = clouds[hour];
            if (dark && x.oil == 0) {
                return x;
            }
            Strip s = strips.get(x.strip);
            int pace = s.thistles ? (int) Math.ceil(x.pace / 2.0) : x.pace;
            int cut = pace < s.yards ? pace : s.yards;
            strips.set(x.strip, new Strip(s.yards - cut, s.owner, s.thistles));
            harvests[s.owner] += cut;
            bride = r;
            return new Reaper(x.pace, dark ? x.oil - 1 : x.oil, x.edge - 1, x.strip, x.wage + cut);
        }

        Night behind(int n) {
            Night c = copy();
            for (int k = 0; k < n; k++) {
                c.passHour();
            }
            return c;
        }

        Night over() {
            return behind(12);
        }

        /** Behind how many hours it is done, or NONE. */
        int done() {
            for (int n = 0; n <= hours - hour; n++) {
                if (behind(n).yards() == 0) {
                    return n;
                }
            }
            return NONE;
        }

        Night with(int r, int oil, int strip) {
            Night c = copy();
            Reaper x = c.reapers.get(r);
            c.reapers.set(r, new Reaper(x.pace, oil, x.edge, strip, x.wage));
            return c;
        }
    }

    private static final class TextFault extends Exception {
        final int number;
        final int place;

        TextFault(int number, int place) {
            this.number = number;
            this.place = place;
        }
    }

    private Night now = new Night();
    private final Night[] images = new Night[2];
    private String tape = "";
    private int fault = 0;
    private final Object[] sheets = new Object[4];
    private int torn = 0;

    // ---- the text

    public int feed(int c) {
        if (c < 0 || c > 127) {
            return BAD;
        }
        if (tape.length() == 160) {
            return FULL;
        }
        tape += (char) c;
        return tape.length();
    }

    public int end(int n) {
        int had = tape.length();
        if (n < 0 || n > had) {
            return BAD;
        }
        tape = tape.substring(0, n);
        return had;
    }

    public int text() {
        String text = tape;
        tape = "";
        try {
            Night told = new Night();
            int lines = new Text(text, told).lines();
            now = told;
            images[0] = null;
            images[1] = null;
            fault = 0;
            return lines;
        } catch (TextFault e) {
            fault = e.number;
            return -10 - e.place;
        }
    }

    private static final class Text {
        final String text;
        final Night told;
        int place = 0;
        int first;
        boolean nightTold = false;
        final boolean[] thistles = new boolean[7];

        Text(String text, Night told) {
            this.text = text;
            this.told = told;
        }

        /** The next token's text; empty at the end. */
        String token() throws TextFault {
            while (place < text.length() && text.charAt(place) == ' ') {
                place++;
            }
            first = place;
            String rest = text.substring(place);
            if (rest.isEmpty()) {
                return "";
            }
            for (String form : new String[] {"[a-z]+", "[0-9]+", ";"}) {
                java.util.regex.Matcher m = java.util.regex.Pattern.compile(form).matcher(rest);
                if (m.lookingAt()) {
                    if (form.equals("[0-9]+") && m.end() > 2) {
                        throw new TextFault(1, first);
                    }
                    place += m.end();
                    return m.group();
                }
            }
            throw new TextFault(1, first);
        }

        int number(int low, int high) throws TextFault {
            String t = token();
            if (t.isEmpty() || !Character.isDigit(t.charAt(0))) {
                throw new TextFault(2, first);
            }
            int n = Integer.parseInt(t);
            if (n < low || n > high) {
                throw new TextFault(3, first);
            }
            return n;
        }

        void refuseIf(boolean is, int number) throws TextFault {
            if (is) {
                throw new TextFault(number, first);
            }
        }

        int lines() throws TextFault {
            int lines = 0;
            for (String name = token(); !name.isEmpty(); name = token()) {
                line(name);
                if (!token().equals(";")) {
                    throw new TextFault(2, first);
                }
                lines++;
            }
            for (int i = 0; i < 7; i++) {
                if (thistles[i]) {
                    if (i >= told.strips.size()) {
                        throw new TextFault(6, text.length());
                    }
                    Strip s = told.strips.get(i);
                    told.strips.set(i, new Strip(s.yards, s.owner, true));
                }
            }
            for (int t = told.hours; t < 12; t++) {
                if (told.clouds[t]) {
                    throw new TextFault(6, text.length());
                }
            }
            for (Reaper x : told.reapers) {
                if (x.strip >= told.strips.size()) {
                    throw new TextFault(6, text.length());
                }
            }
            return lines;
        }

        void line(String name) throws TextFault {
            switch (name) {
                case "night" -> {
                    refuseIf(nightTold, 4);
                    nightTold = true;
                    told.hours = number(1, 12);
                }
                case "strip" -> {
                    refuseIf(told.strips.size() == 7, 5);
                    told.strips.add(new Strip(number(0, 40), number(0, 3), false));
                }
                case "reaper" -> {
                    refuseIf(told.reapers.size() == 4, 5);
                    told.reapers.add(new Reaper(number(1, 9), number(0, 9), 3, number(0, 6), 0));
                }
                case "cloud" -> {
                    int t = number(0, 11);
                    refuseIf(told.clouds[t], 4);
                    told.clouds[t] = true;
                }
                case "thistle" -> {
                    int i = number(0, 6);
                    refuseIf(thistles[i], 4);
                    thistles[i] = true;
                }
                default -> throw new TextFault(2, first);
            }
        }
    }

    public int fault() {
        return fault;
    }

    public int rule(int what) {
        return switch (what) {
            case 0 -> now.hours;
            case 1 -> now.hour;
            case 2 -> bits(12, t -> now.clouds[t]);
            case 3 -> now.strips.size();
            case 4 -> now.reapers.size();
            case 5 -> now.bride;
            case 6 -> now.yards();
            default -> BAD;
        };
    }

    private static int bits(int n, Predicate<Integer> is) {
        int sum = 0;
        int one = 1;
        for (int k = 0; k < n; k++) {
            sum += is.test(k) ? one : 0;
            one *= 2;
        }
        return sum;
    }

    private boolean noStrip(int i) {
        return i < 0 || i >= now.strips.size();
    }

    private boolean noReaper(int r) {
        return r < 0 || r >= now.reapers.size();
    }

    public int strip(int i, int what) {
        if (noStrip(i)) {
            return BAD;
        }
        Strip s = now.strips.get(i);
        return switch (what) {
            case 0 -> s.yards;
            case 1 -> s.owner;
            case 2 -> s.thistles ? 1 : 0;
            case 3 -> bits(now.reapers.size(), r -> now.reapers.get(r).strip == i);
            default -> BAD;
        };
    }

    public int reaper(int r, int what) {
        return ofReaper(now, r, what);
    }

    private int ofReaper(Night night, int r, int what) {
        if (noReaper(r)) {
            return BAD;
        }
        Reaper x = night.reapers.get(r);
        return switch (what) {
            case 0 -> x.pace;
            case 1 -> x.oil;
            case 2 -> x.edge;
            case 3 -> x.strip;
            case 4 -> x.wage;
            default -> BAD;
        };
    }

    public int harvest(int o) {
        return o < 0 || o > 3 ? BAD : now.harvests[o];
    }

    // ---- what is changed

    public int send(int r, int i) {
        if (noReaper(r) || noStrip(i)) {
            return BAD;
        }
        int was = now.reapers.get(r).strip;
        now = now.with(r, now.reapers.get(r).oil, i);
        return was;
    }

    public int lend(int a, int b, int oil) {
        if (noReaper(a) || noReaper(b) || a == b || oil < 0 || oil > 9) {
            return BAD;
        }
        Reaper x = now.reapers.get(a);
        Reaper y = now.reapers.get(b);
        if (Math.abs(x.strip - y.strip) > 1 || x.oil < oil) {
            return STATE;
        }
        if (y.oil + oil > 9) {
            return FULL;
        }
        now = now.with(a, x.oil - oil, x.strip).with(b, y.oil + oil, y.strip);
        return y.oil + oil;
    }

    public int whet(int r, int e) {
        if (noReaper(r) || e < 0 || e > 3) {
            return BAD;
        }
        Reaper x = now.reapers.get(r);
        now.reapers.set(r, new Reaper(x.pace, x.oil, e, x.strip, x.wage));
        return x.edge;
    }

    public int fill(int r, int v) {
        if (noReaper(r) || v < 0 || v > 9) {
            return BAD;
        }
        Reaper x = now.reapers.get(r);
        now = now.with(r, v, x.strip);
        return x.oil;
    }

    public int cloud(int t, boolean is) {
        if (t < 0 || t >= now.hours) {
            return BAD;
        }
        boolean was = now.clouds[t];
        now.clouds[t] = is;
        return was ? 1 : 0;
    }

    public int thistle(int i, boolean is) {
        if (noStrip(i)) {
            return BAD;
        }
        Strip s = now.strips.get(i);
        now.strips.set(i, new Strip(s.yards, s.owner, is));
        return s.thistles ? 1 : 0;
    }

    public int own(int i, int o) {
        if (noStrip(i) || o < 0 || o > 3) {
            return BAD;
        }
        Strip s = now.strips.get(i);
        now.strips.set(i, new Strip(s.yards, o, s.thistles));
        return s.owner;
    }

    public int grow(int i, int y) {
        if (noStrip(i) || y < 0 || y > 40) {
            return BAD;
        }
        Strip s = now.strips.get(i);
        now.strips.set(i, new Strip(y, s.owner, s.thistles));
        return s.yards;
    }

    // ---- hours

    public int go(int n) {
        if (n < 0 || n > 12) {
            return BAD;
        }
        if (now.hour + n > now.hours) {
            return FULL;
        }
        int stood = now.yards();
        now = now.behind(n);
        return stood - now.yards();
    }

    public int ahead(int r, int n, int what) {
        return n < 0 || n > 12 ? BAD : ofReaper(now.behind(n), r, what);
    }

    public int stands(int i, int n) {
        return noStrip(i) || n < 0 || n > 12 ? BAD : now.behind(n).strips.get(i).yards;
    }

    public int done(int what) {
        return what == 0 ? now.done() : what == 1 ? now.over().bride : BAD;
    }

    public int left() {
        return now.over().yards();
    }

    // ---- where to begin, how much oil

    /** All rows of n numbers from 0 to high, in order. */
    private static List<int[]> rows(int n, int high) {
        List<int[]> all = new ArrayList<>();
        all.add(new int[n]);
        for (int k = 0; k < n; k++) {
            List<int[]> next = new ArrayList<>();
            for (int[] row : all) {
                for (int v = 0; v <= high; v++) {
                    int[] more = row.clone();
                    more[k] = v;
                    next.add(more);
                }
            }
            all = next;
        }
        return all;
    }

    private Night beginning(int[] strips) {
        Night night = now.copy();
        for (int r = 0; r < strips.length; r++) {
            night = night.with(r, night.reapers.get(r).oil, strips[r]);
        }
        return night;
    }

    private boolean asks(int what) {
        return what == 0 || what >= 10 && !noReaper(what - 10);
    }

    public int begin(int what) {
        if (!asks(what)) {
            return BAD;
        }
        if (now.strips.isEmpty() || now.reapers.isEmpty()) {
            return STATE;
        }
        int best = NONE;
        int[] by = null;
        for (int[] strips : rows(now.reapers.size(), now.strips.size() - 1)) {
            int hours = beginning(strips).done();
            if (hours != NONE && (best == NONE || hours < best)) {
                best = hours;
                by = strips;
            }
        }
        return by == null ? NONE : what == 0 ? best : by[what - 10];
    }

    public int best(int r, int what) {
        if (noReaper(r) || what < 0 || what > 1) {
            return BAD;
        }
        int best = -1;
        int fewest = Integer.MAX_VALUE;
        for (int i = 0; i < now.strips.size(); i++) {
            int left = now.with(r, now.reapers.get(r).oil, i).over().yards();
            if (left < fewest) {
                fewest = left;
                best = i;
            }
        }
        return what == 0 ? best : fewest;
    }

    public int oil(int r) {
        if (noReaper(r)) {
            return BAD;
        }
        for (int v = 0; v <= 9; v++) {
            if (now.with(r, v, now.reapers.get(r).strip).over().yards() == 0) {
                return v;
            }
        }
        return NONE;
    }

    public int least(int what) {
        if (!asks(what)) {
            return BAD;
        }
        int best = NONE;
        int[] by = null;
        for (int[] oils : rows(now.reapers.size(), 9)) {
            int sum = 0;
            Night night = now.copy();
            for (int r = 0; r < oils.length; r++) {
                sum += oils[r];
                night = night.with(r, oils[r], night.reapers.get(r).strip);
            }
            if ((by == null || sum < best) && night.over().yards() == 0) {
                best = sum;
                by = oils;
            }
        }
        return by == null ? NONE : what == 0 ? best : by[what - 10];
    }

    // ---- clouds by odds

    public long luck(int v, int what) {
        if (v < 0 || v > 10 || what < 0 || what > 1) {
            return BAD;
        }
        int left = now.hours - now.hour;
        BigInteger part = BigInteger.ZERO;
        for (int sky = 0; sky < 1 << left; sky++) {
            Night night = now.copy();
            BigInteger weight = BigInteger.ONE;
            for (int k = 0; k < left; k++) {
                boolean dark = (sky >> k & 1) == 1;
                night.clouds[now.hour + k] = dark;
                weight = weight.multiply(BigInteger.valueOf(dark ? v : 10 - v));
            }
            if (weight.signum() > 0 && night.over().yards() == 0) {
                part = part.add(weight);
            }
        }
        BigInteger whole = BigInteger.TEN.pow(left);
        BigInteger shared = part.gcd(whole);
        return (what == 0 ? part : whole).divide(shared).longValueExact();
    }

    // ---- the hare

    public int see(int n, int i, boolean is) {
        if (n < 0 || n > 6 || noStrip(i)) {
            return BAD;
        }
        if (now.seen.size() == 8) {
            return FULL;
        }
        now.seen.add(new Sight(n, i, is));
        return now.seen.size();
    }

    public int forget(int n) {
        int had = now.seen.size();
        if (n < 0 || n > had) {
            return BAD;
        }
        now.seen = new ArrayList<>(now.seen.subList(0, n));
        return had;
    }

    private List<int[]> allRuns() {
        List<int[]> out = new ArrayList<>();
        for (int i = 0; i < now.strips.size(); i++) {
            runOn(new int[] {i}, out);
        }
        return out;
    }

    private void runOn(int[] run, List<int[]> out) {
        if (run.length == 7) {
            if (now.seen.stream().allMatch(s -> (run[s.n] == s.i) == s.is)) {
                out.add(run);
            }
            return;
        }
        int last = run[run.length - 1];
        for (int next = last - 1; next <= last + 1; next++) {
            if (!noStrip(next)) {
                int[] more = java.util.Arrays.copyOf(run, run.length + 1);
                more[run.length] = next;
                runOn(more, out);
            }
        }
    }

    public int hare(int n) {
        if (n < 0 || n > 6) {
            return BAD;
        }
        List<int[]> all = allRuns();
        return bits(now.strips.size(), i -> all.stream().anyMatch(run -> run[n] == i));
    }

    public int runs() {
        return allRuns().size();
    }

    public int look(int n, int what) {
        if (n < 0 || n > 6 || what < 0 || what > 1) {
            return BAD;
        }
        List<int[]> all = allRuns();
        int best = -1;
        int fewest = all.size();
        for (int i = 0; i < now.strips.size(); i++) {
            int strip = i;
            int there = (int) all.stream().filter(run -> run[n] == strip).count();
            int worst = Math.max(there, all.size() - there);
            if (worst < fewest) {
                fewest = worst;
                best = i;
            }
        }
        return best < 0 ? NONE : what == 0 ? best : fewest;
    }

    // ---- who began where

    public int pay(int r, int wage) {
        if (noReaper(r) || wage < 0 || wage > 99) {
            return BAD;
        }
        if (now.paid.size() == 4) {
            return FULL;
        }
        now.paid.add(new Wage(r, wage));
        return now.paid.size();
    }

    public int owe(int n) {
        int had = now.paid.size();
        if (n < 0 || n > had) {
            return BAD;
        }
        now.paid = new ArrayList<>(now.paid.subList(0, n));
        return had;
    }

    public int fits(int what) {
        if (!asks(what)) {
            return BAD;
        }
        List<int[]> fitting = new ArrayList<>();
        for (int[] strips : rows(now.reapers.size(), now.strips.size() - 1)) {
            Night over = beginning(strips).over();
            if (now.paid.stream().allMatch(w -> over.reapers.get(w.r).wage == w.wage)) {
                fitting.add(strips);
            }
        }
        if (what == 0) {
            return fitting.size();
        }
        return bits(now.strips.size(), i -> fitting.stream().anyMatch(strips -> strips[what - 10] == i));
    }

    // ---- by a seed

    public int drift(int seed, int v, int what) {
        if (v < 0 || v > 10 || what < 0 || what > 1) {
            return BAD;
        }
        Night night = now.copy();
        BigInteger s = BigInteger.valueOf(seed);
        while (night.hour < night.hours) {
            s = s.multiply(BigInteger.valueOf(1103515245)).add(BigInteger.valueOf(12345)).mod(BigInteger.ONE.shiftLeft(32));
            int middle = s.shiftRight(16).mod(BigInteger.ONE.shiftLeft(15)).intValueExact();
            night.clouds[night.hour] = middle % 10 < v;
            night.passHour();
        }
        return what == 0 ? night.yards() : night.reapers.stream().mapToInt(Reaper::oil).sum();
    }

    // ---- images, sheets

    public int keep(int k) {
        if (k < 0 || k > 1) {
            return BAD;
        }
        int was = images[k] == null ? 0 : 1;
        images[k] = now.copy();
        return was;
    }

    public int back(int k) {
        if (k < 0 || k > 1) {
            return BAD;
        }
        if (images[k] == null) {
            return STATE;
        }
        now = images[k].copy();
        return now.hour;
    }

    public int sheet(int k, int lane, int n) {
        if (k < 0 || k > 3 || lane < 0 || lane > 2 || n > 40) {
            return BAD;
        }
        try {
            sheets[k] = lane == 0 ? new byte[n] : lane == 1 ? new short[n] : new int[n];
            return 1;
        } catch (NegativeArraySizeException e) {
            return -10 - 4;
        }
    }

    public int lay(int k, int i, int v) {
        if (k < 0 || k > 3) {
            return BAD;
        }
        try {
            if (sheets[k] instanceof byte[] bytes) {
                bytes[i] = (byte) v;
            } else if (sheets[k] instanceof short[] shorts) {
                shorts[i] = (short) v;
            } else {
                ((int[]) sheets[k])[i] = v;
            }
            return 1;
        } catch (NullPointerException e) {
            return -10 - 1;
        } catch (ArrayIndexOutOfBoundsException e) {
            return -10 - 2;
        }
    }

    public int read(int k, int lane, int f, int n) {
        if (k < 0 || k > 3 || lane < 0 || lane > 2 || n < 0 || n > 20) {
            return BAD;
        }
        List<int[]> pairs = new ArrayList<>();
        int found = 0;
        try {
            readPairs(pairs, k, lane, f, n);
        } catch (NullPointerException e) {
            found = 1;
        } catch (ArrayIndexOutOfBoundsException e) {
            found = 2;
        } catch (ClassCastException e) {
            found = 3;
        }
        for (int j = 0; j < pairs.size(); j++) {
            if (noReaper(pairs.get(j)[0]) || noStrip(pairs.get(j)[1])) {
                return -20 - j;
            }
        }
        for (int[] pair : pairs) {
            send(pair[0], pair[1]);
        }
        torn = found;
        return pairs.size();
    }

    private void readPairs(List<int[]> pairs, int k, int lane, int f, int n) {
        if (lane == 0) {
            byte[] row = (byte[]) sheets[k];
            for (int j = 0; j < n; j++) {
                pairs.add(new int[] {row[f + 2 * j], row[f + 2 * j + 1]});
            }
        } else if (lane == 1) {
            short[] row = (short[]) sheets[k];
            for (int j = 0; j < n; j++) {
                pairs.add(new int[] {row[f + 2 * j], row[f + 2 * j + 1]});
            }
        } else {
            int[] row = (int[]) sheets[k];
            for (int j = 0; j < n; j++) {
                pairs.add(new int[] {row[f + 2 * j], row[f + 2 * j + 1]});
            }
        }
    }

    public int torn() {
        return torn;
    }

    public int count(int what) {
        return switch (what) {
            case 0 -> (int) now.strips.stream().filter(s -> s.yards > 0).count();
            case 1 -> now.reapers.stream().mapToInt(Reaper::wage).sum();
            case 2 -> now.reapers.stream().mapToInt(Reaper::oil).sum();
            case 3 -> now.seen.size();
            case 4 -> now.paid.size();
            case 5 -> (images[0] == null ? 0 : 1) + (images[1] == null ? 0 : 1);
            case 6 -> tape.length();
            case 7 -> sheets[0] == null ? NONE : java.lang.reflect.Array.getLength(sheets[0]);
            default -> BAD;
        };
    }
}
