import java.math.BigInteger;
import java.util.ArrayList;
import java.util.Comparator;
import java.util.List;
import java.util.TreeMap;
import java.util.regex.Matcher;
import java.util.regex.Pattern;

/** The document a second time, in other ways than the program's: slow, with the whole library. */
final class Model {
    static final int BAD = -1, STATE = -2, FULL = -3, NONE = -4;
    private static final List<String> KINDS = List.of("plain", "widow", "squire", "miser");

    /** One of the people; what he owes stands by whom. */
    static final class Man {
        int kind, money, earns;
        final TreeMap<Integer, Integer> owes = new TreeMap<>();

        Man copy() {
            Man m = new Man();
            m.kind = kind;
            m.money = money;
            m.earns = earns;
            m.owes.putAll(owes);
            return m;
        }

        int debt() {
            return owes.values().stream().mapToInt(i -> i).sum();
        }

        int will() {
            return switch (kind) {
                case 0 -> money;
                case 1 -> money >> 1;
                case 2 -> money >> 2;
                default -> debt() > 9 ? money >> 1 : 0;
            };
        }
    }

    static final class World {
        final List<Man> men = new ArrayList<>();
        int day, dry;

        World copy() {
            World w = new World();
            men.forEach(m -> w.men.add(m.copy()));
            w.day = day;
            w.dry = dry;
            return w;
        }

        int owes(int p, int q) {
            return men.get(p).owes.getOrDefault(q, 0);
        }

        void setOwes(int p, int q, int v) {
            men.get(p).owes.remove(q);
            if (v > 0) {
                men.get(p).owes.put(q, v);
            }
        }

        int claims(int p) {
            int sum = 0;
            for (Man m : men) {
                sum += m.owes.getOrDefault(p, 0);
            }
            return sum;
        }

        int owed() {
            return men.stream().mapToInt(Man::debt).sum();
        }

        int money() {
            return men.stream().mapToInt(m -> m.money).sum();
        }

        int riders() {
            int bits = 0;
            for (int p = 0; p < men.size(); p++) {
                bits += men.get(p).owes.isEmpty() ? 1 << p : 0;
            }
            return bits;
        }

        int height(int p) {
            int c = claims(p);
            int widow = c - c / 2;
            if (!men.get(p).owes.isEmpty()) {
                return 0;
            }
            return List.of(c, widow, 2 * c + 1, widow == 0 ? 0 : widow - 1).get(men.get(p).kind);
        }

        int runDay(int dryThen) {
            for (Man m : men) {
                m.money = Math.min(999, m.money + Math.max(0, m.earns - dryThen));
            }
            int before = owed();
            for (int p = 0; p < men.size(); p++) {
                int purse = men.get(p).will();
                for (int q : new ArrayList<>(men.get(p).owes.keySet())) {
                    int part = Math.min(purse, owes(p, q));
                    purse -= part;
                    hand(p, q, part);
                }
            }
            day++;
            return before - owed();
        }

        void hand(int p, int q, int n) {
            men.get(p).money -= n;
            setOwes(p, q, owes(p, q) - n);
            men.get(q).money = Math.min(999, men.get(q).money + n);
        }

        World behind(int n) {
            World w = copy();
            for (int i = 0; i < n; i++) {
                w.runDay(w.dry);
            }
            return w;
        }

        int first(int p) {
            for (int d = 0; d <= 60; d++) {
                if (behind(d).men.get(p).owes.isEmpty()) {
                    return d;
                }
            }
            return NONE;
        }
    }

    record Sight(int n, int p, boolean rides) { }

    record Picture(World world, List<Sight> sights) { }

    World world = new World();
    List<Sight> sights = new ArrayList<>();
    Picture[] pictures = new Picture[2];
    Object[] sheets = new Object[4];
    String tape = "";
    int fault, torn;

    private boolean no(int v, int low, int high) {
        return v < low || v > high;
    }

    private boolean noOne(int p) {
        return no(p, 0, world.men.size() - 1);
    }

    private boolean noPair(int p, int q) {
        return noOne(p) || noOne(q) || p == q;
    }

    int feed(int c) {
        if (no(c, 0, 127)) {
            return BAD;
        }
        if (tape.length() == 160) {
            return FULL;
        }
        tape += (char) c;
        return tape.length();
    }

    int end(int n) {
        if (no(n, 0, tape.length())) {
            return BAD;
        }
        int had = tape.length();
        tape = tape.substring(0, n);
        return had;
    }

    /** A fault that is met ends the reading at once. */
    private static final class Met extends RuntimeException {
        private static final long serialVersionUID = 1;
        final int fault, place;

        Met(int fault, int place) {
            this.fault = fault;
            this.place = place;
        }
    }

    private static final Pattern TOKEN = Pattern.compile(" *([a-z]+|[0-9]+|;|$)");
    private int at, tokenAt;

    private String token() {
        Matcher m = TOKEN.matcher(tape).region(at, tape.length());
        m.useAnchoringBounds(true);
        if (!m.lookingAt()) {
            int i = at;
            while (tape.charAt(i) == ' ') {
                i++;
            }
            throw new Met(1, i);
        }
        tokenAt = m.start(1);
        at = m.end();
        if (m.group(1).matches("[0-9]{3,}")) {
            throw new Met(1, tokenAt);
        }
        return m.group(1);
    }

    private int number(int low, int high) {
        String t = token();
        if (!t.matches("[0-9]+")) {
            throw new Met(2, tokenAt);
        }
        int v = Integer.parseInt(t);
        if (no(v, low, high)) {
            throw new Met(3, tokenAt);
        }
        return v;
    }

    private int tellLines(World w) {
        at = 0;
        int lines = 0;
        boolean dryTold = false;
        List<int[]> debts = new ArrayList<>();
        for (String name = token(); !name.isEmpty(); name = token()) {
            int kind = KINDS.indexOf(name);
            if (kind >= 0) {
                if (w.men.size() == 5) {
                    throw new Met(5, tokenAt);
                }
                Man m = new Man();
                m.kind = kind;
                m.money = number(0, 99);
                m.earns = number(0, 9);
                w.men.add(m);
            } else if (name.equals("owes")) {
                int who = number(0, 4);
                int whom = number(0, 4);
                if (who == whom) {
                    throw new Met(3, tokenAt);
                }
                if (debts.stream().anyMatch(d -> d[0] == who && d[1] == whom)) {
                    throw new Met(4, tokenAt);
                }
                debts.add(new int[] {who, whom, number(1, 99)});
            } else if (name.equals("dry")) {
                if (dryTold) {
                    throw new Met(4, tokenAt);
                }
                dryTold = true;
                w.dry = number(0, 9);
            } else {
                throw new Met(2, tokenAt);
            }
            if (!token().equals(";")) {
                throw new Met(2, tokenAt);
            }
            lines++;
        }
        for (int[] d : debts) {
            if (d[0] >= w.men.size() || d[1] >= w.men.size()) {
                throw new Met(6, tape.length());
            }
            w.setOwes(d[0], d[1], d[2]);
        }
        return lines;
    }

    int text() {
        World w = new World();
        try {
            int lines = tellLines(w);
            world = w;
            sights.clear();
            pictures = new Picture[2];
            fault = 0;
            return lines;
        } catch (Met met) {
            fault = met.fault;
            return -10 - met.place;
        } finally {
            tape = "";
        }
    }

    int rule(int what) {
        if (no(what, 0, 5)) {
            return BAD;
        }
        return List.of(world.men.size(), world.day, world.dry, world.riders(), world.owed(), world.money()).get(what);
    }

    int one(int p, int what) {
        if (noOne(p) || no(what, 0, 6)) {
            return BAD;
        }
        Man m = world.men.get(p);
        return List.of(m.kind, m.money, m.earns, m.debt(), world.claims(p), world.height(p), m.will()).get(what);
    }

    int owes(int p, int q) {
        return noPair(p, q) ? BAD : world.owes(p, q);
    }

    int meet(int p, int q) {
        if (noPair(p, q)) {
            return BAD;
        }
        int c = Integer.compare(world.height(p), world.height(q));
        return c == 0 ? NONE : c < 0 ? p : q;
    }

    int alter(int p, int what, int v) {
        if (noOne(p) || no(what, 0, 2) || no(v, 0, what == 0 ? 3 : what == 1 ? 999 : 9)) {
            return BAD;
        }
        int was = one(p, what);
        set(world, p, what, v);
        return was;
    }

    private static void set(World w, int p, int what, int v) {
        Man m = w.men.get(p);
        if (what == 0) {
            m.kind = v;
        } else if (what == 1) {
            m.money = v;
        } else {
            m.earns = v;
        }
    }

    int bond(int p, int q, int v) {
        if (noPair(p, q) || no(v, 0, 99)) {
            return BAD;
        }
        int was = world.owes(p, q);
        world.setOwes(p, q, v);
        return was;
    }

    int dry(int v) {
        if (no(v, 0, 9)) {
            return BAD;
        }
        int was = world.dry;
        world.dry = v;
        return was;
    }

    int lend(int p, int q, int n) {
        if (noPair(p, q) || no(n, 1, 99)) {
            return BAD;
        }
        return lendIn(world, p, q, n);
    }

    private static int lendIn(World w, int p, int q, int n) {
        if (w.men.get(p).money < n || w.owes(q, p) + n > 99 || w.men.get(q).money + n > 999) {
            return STATE;
        }
        w.men.get(p).money -= n;
        w.men.get(q).money += n;
        w.setOwes(q, p, w.owes(q, p) + n);
        return w.owes(q, p);
    }

    int pay(int p, int q, int n) {
        if (noPair(p, q) || no(n, 1, 99)) {
            return BAD;
        }
        if (world.owes(p, q) < n || world.men.get(p).money < n) {
            return STATE;
        }
        world.hand(p, q, n);
        return world.owes(p, q);
    }

    int days(int n) {
        if (no(n, 0, 30)) {
            return BAD;
        }
        if (world.day + n >= 1000) {
            return FULL;
        }
        int before = world.owed();
        world = world.behind(n);
        return before - world.owed();
    }

    int runs(int n, int what) {
        if (no(n, 0, 60) || no(what, 0, 3)) {
            return BAD;
        }
        World w = world.behind(n);
        if (what == 3) {
            int d = 0;
            while (d <= n && world.behind(d).owed() > 0) {
                d++;
            }
            return d > n ? NONE : d;
        }
        return List.of(w.owed(), w.riders(), w.money()).get(what);
    }

    int ahead(int p, int n, int what) {
        if (noOne(p) || no(n, 0, 60) || no(what, 0, 2)) {
            return BAD;
        }
        World w = world.behind(n);
        return List.of(w.men.get(p).debt(), w.men.get(p).money, w.height(p)).get(what);
    }

    int rides(int p) {
        return noOne(p) ? BAD : world.first(p);
    }

    int net(int p) {
        return noOne(p) ? BAD : 1000 + world.men.get(p).debt() - world.claims(p);
    }

    int least() {
        int both = 0;
        for (int p = 0; p < world.men.size(); p++) {
            both += Math.abs(net(p) - 1000);
        }
        return both / 2;
    }

    /** All rows of different people, of which the first is the least: every ring is one of them. */
    private void rows(List<Integer> row, List<List<Integer>> all) {
        all.add(row);
        for (int q = 0; q < world.men.size(); q++) {
            if (!row.contains(q) && (row.isEmpty() || q > row.get(0))) {
                List<Integer> longer = new ArrayList<>(row);
                longer.add(q);
                rows(longer, all);
            }
        }
    }

    private int leastOf(List<Integer> row) {
        int least = 99;
        for (int i = 0; i < row.size(); i++) {
            least = Math.min(least, world.owes(row.get(i), row.get((i + 1) % row.size())));
        }
        return least;
    }

    private List<Integer> firstRing() {
        List<List<Integer>> all = new ArrayList<>();
        rows(new ArrayList<>(), all);
        all.removeIf(r -> r.size() < 2 || leastOf(r) == 0);
        all.sort(Comparator.comparingInt((List<Integer> r) -> r.size()).thenComparing(Object::toString));
        return all.isEmpty() ? null : all.get(0);
    }

    int ring(int what) {
        if (no(what, 0, 1) && no(what, 10, 14)) {
            return BAD;
        }
        List<Integer> r = firstRing();
        if (r == null) {
            return NONE;
        }
        if (what < 2) {
            return what == 0 ? r.size() : leastOf(r);
        }
        return what - 10 < r.size() ? r.get(what - 10) : NONE;
    }

    int clear() {
        int before = world.owed();
        for (List<Integer> r = firstRing(); r != null; r = firstRing()) {
            int by = leastOf(r);
            for (int i = 0; i < r.size(); i++) {
                int q = r.get((i + 1) % r.size());
                world.setOwes(r.get(i), q, world.owes(r.get(i), q) - by);
            }
        }
        return before - world.owed();
    }

    private static int ridersLater(World w) {
        return Integer.bitCount(w.behind(30).riders());
    }

    int give(int n, int what) {
        if (no(n, 1, 99) || no(what, 0, 1)) {
            return BAD;
        }
        int best = NONE;
        int most = ridersLater(world);
        for (int p = 0; p < world.men.size(); p++) {
            World w = world.copy();
            w.men.get(p).money = Math.min(999, w.men.get(p).money + n);
            if (ridersLater(w) > most) {
                most = ridersLater(w);
                best = p;
            }
        }
        return best == NONE || what == 0 ? best : most;
    }

    int forgive(int what) {
        if (no(what, 0, 1)) {
            return BAD;
        }
        int best = NONE;
        int most = ridersLater(world);
        for (int pq = 0; pq < 55; pq++) {
            if (!noPair(pq / 10, pq % 10)) {
                World w = world.copy();
                w.setOwes(pq / 10, pq % 10, 0);
                if (ridersLater(w) > most) {
                    most = ridersLater(w);
                    best = pq;
                }
            }
        }
        return best == NONE || what == 0 ? best : most;
    }

    private World with(int p, int what, int v) {
        World w = world.copy();
        set(w, p, what, v);
        return w;
    }

    int kind(int p, int what) {
        if (noOne(p) || no(what, 0, 1)) {
            return BAD;
        }
        for (int d = 0; d <= 60; d++) {
            for (int k = 0; k < 4; k++) {
                if (with(p, 0, k).behind(d).men.get(p).owes.isEmpty()) {
                    return what == 0 ? k : d;
                }
            }
        }
        return NONE;
    }

    int late(int p, int n) {
        if (noOne(p) || no(n, 0, 9)) {
            return BAD;
        }
        World w = world.copy();
        w.dry = 0;
        int wet = w.first(p);
        w.dry = n;
        int parched = w.first(p);
        return wet == NONE || parched == NONE ? NONE : parched - wet;
    }

    int train(int n, int what) {
        if (no(n, 0, 60) || no(what, 0, 1)) {
            return BAD;
        }
        World w = world.behind(n);
        for (int owed = 396; owed > 0; owed--) {
            for (int p = 0; p < w.men.size(); p++) {
                if (w.men.get(p).debt() == owed) {
                    return what == 0 ? p : owed;
                }
            }
        }
        return NONE;
    }

    private long fraction(int v, int p, int n, int what) {
        BigInteger top = BigInteger.ZERO;
        for (int mask = 0; mask < 1 << n; mask++) {
            World w = world.copy();
            BigInteger weight = BigInteger.ONE;
            for (int d = 0; d < n; d++) {
                boolean dryDay = (mask >> d & 1) == 1;
                w.runDay(dryDay ? 9 : w.dry);
                weight = weight.multiply(BigInteger.valueOf(dryDay ? v : 10 - v));
            }
            int worth = p < 0 ? w.owed() : w.men.get(p).owes.isEmpty() ? 1 : 0;
            top = top.add(weight.multiply(BigInteger.valueOf(worth)));
        }
        BigInteger bottom = BigInteger.TEN.pow(n);
        BigInteger g = top.gcd(bottom);
        return (what == 0 ? top : bottom).divide(g).longValueExact();
    }

    long luck(int v, int p, int n, int what) {
        return no(v, 0, 10) || noOne(p) || no(n, 0, 8) || no(what, 0, 1) ? BAD : fraction(v, p, n, what);
    }

    long mean(int v, int n, int what) {
        return no(v, 0, 10) || no(n, 0, 8) || no(what, 0, 1) ? BAD : fraction(v, -1, n, what);
    }

    int see(int n, int p, boolean rides) {
        if (no(n, 0, 30) || noOne(p)) {
            return BAD;
        }
        if (sights.size() == 6) {
            return FULL;
        }
        sights.add(new Sight(n, p, rides));
        return sights.size();
    }

    int forget(int n) {
        if (no(n, 0, sights.size())) {
            return BAD;
        }
        int were = sights.size();
        sights = new ArrayList<>(sights.subList(0, n));
        return were;
    }

    private int possible(int p, int what, int kinds) {
        int bits = 0;
        for (int v = 0; v < kinds; v++) {
            World w = with(p, what, v);
            if (sights.stream().allMatch(s -> w.behind(s.n).men.get(s.p).owes.isEmpty() == s.rides)) {
                bits += 1 << v;
            }
        }
        return bits;
    }

    int kinds(int p) {
        return noOne(p) ? BAD : possible(p, 0, 4);
    }

    int earns(int p) {
        return noOne(p) ? BAD : possible(p, 2, 10);
    }

    int ask(int p, int what) {
        if (noOne(p) || no(what, 0, 1)) {
            return BAD;
        }
        int now = earns(p);
        int behind = NONE;
        int fewest = Integer.bitCount(now);
        for (int d = 0; d <= 30; d++) {
            int[] left = new int[2];
            for (int e = 0; e < 10; e++) {
                if ((now >> e & 1) == 1) {
                    left[with(p, 2, e).behind(d).men.get(p).owes.isEmpty() ? 1 : 0]++;
                }
            }
            if (Math.max(left[0], left[1]) < fewest) {
                fewest = Math.max(left[0], left[1]);
                behind = d;
            }
        }
        return behind == NONE || what == 0 ? behind : fewest;
    }

    int drift(int seed, int n, int what) {
        if (no(n, 1, 60) || no(what, 0, 1)) {
            return BAD;
        }
        int many = world.men.size();
        if (many == 0) {
            return STATE;
        }
        World w = world.copy();
        BigInteger s = BigInteger.valueOf(seed & 0xffffffffL);
        for (int d = 0; d < n; d++) {
            s = s.multiply(BigInteger.valueOf(1103515245)).add(BigInteger.valueOf(12345)).mod(BigInteger.ONE.shiftLeft(32));
            int got = s.shiftRight(16).intValue() & 32767;
            if (got % many != (got >> 3) % many) {
                lendIn(w, got % many, (got >> 3) % many, 1 + (got >> 6) % 9);
            }
            w.runDay(w.dry);
        }
        return what == 0 ? w.owed() : w.riders();
    }

    int keep(int k) {
        if (no(k, 0, 1)) {
            return BAD;
        }
        int was = pictures[k] == null ? 0 : 1;
        pictures[k] = new Picture(world.copy(), new ArrayList<>(sights));
        return was;
    }

    int back(int k) {
        if (no(k, 0, 1)) {
            return BAD;
        }
        if (pictures[k] == null) {
            return STATE;
        }
        world = pictures[k].world.copy();
        sights = new ArrayList<>(pictures[k].sights);
        return world.day;
    }

    int sheet(int k, int lane, int n) {
        if (no(k, 0, 3) || no(lane, 0, 2) || n > 40) {
            return BAD;
        }
        try {
            sheets[k] = lane == 0 ? new byte[n] : lane == 1 ? new short[n] : new int[n];
            return 1;
        } catch (NegativeArraySizeException e) {
            return -14;
        }
    }

    int lay(int k, int i, int v) {
        if (no(k, 0, 3)) {
            return BAD;
        }
        try {
            if (sheets[k] instanceof byte[] b) {
                b[i] = (byte) v;
            } else if (sheets[k] instanceof short[] s) {
                s[i] = (short) v;
            } else {
                ((int[]) sheets[k])[i] = v;
            }
            return 1;
        } catch (NullPointerException e) {
            return -11;
        } catch (ArrayIndexOutOfBoundsException e) {
            return -12;
        }
    }

    private int cell(int k, int lane, int i) {
        return lane == 0 ? ((byte[]) sheets[k])[i] : lane == 1 ? ((short[]) sheets[k])[i] : ((int[]) sheets[k])[i];
    }

    int read(int k, int lane, int f, int n) {
        if (no(k, 0, 3) || no(lane, 0, 2) || no(n, 0, 13)) {
            return BAD;
        }
        World before = world.copy();
        int came = 0;
        int found = 0;
        try {
            for (; came < n; came++) {
                int i = f + 3 * came;
                int who = cell(k, lane, i);
                int whom = cell(k, lane, i + 1);
                int sum = cell(k, lane, i + 2);
                if (pay(who, whom, sum) < 0) {
                    world = before;
                    return -20 - came;
                }
            }
        } catch (NullPointerException e) {
            found = 1;
        } catch (ArrayIndexOutOfBoundsException e) {
            found = 2;
        } catch (ClassCastException e) {
            found = 3;
        }
        torn = found;
        return came;
    }

    int count(int what) {
        switch (what) {
            case 0:
                return sights.size();
            case 1:
                return (pictures[0] == null ? 0 : 1) + (pictures[1] == null ? 0 : 1);
            case 2:
                return tape.length();
            case 3:
                return sheets[0] == null ? NONE : java.lang.reflect.Array.getLength(sheets[0]);
            case 4:
                return world.men.stream().mapToInt(m -> m.owes.size()).sum();
            default:
                return BAD;
        }
    }
}
