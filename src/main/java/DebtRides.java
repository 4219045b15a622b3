import java.util.Arrays;

/** Who owes whom in that plain, who pays, who rides and who is ridden; README.md tells how to use it. */
public final class DebtRides {
    public static final int BAD = -1, STATE = -2, FULL = -3, NONE = -4;

    private static final int PEOPLE_LIMIT = 5;
    private static final int KINDS_LIMIT = 4;
    private static final int MONEY_LIMIT = 999;
    private static final int TOLD_LIMIT = 99;
    private static final int WAGE_LIMIT = 9;
    private static final int DRY_LIMIT = 9;
    private static final int DAY_LIMIT = 999;
    private static final int NEAR_DAYS = 30;
    private static final int FAR_DAYS = 60;
    private static final int LUCK_DAYS = 8;
    private static final int TEN = 10;
    private static final int SEEN_LIMIT = 6;
    private static final int TAPE_LIMIT = 160;
    private static final int BYTE_LIMIT = 127;
    private static final int IMAGES = 2;
    private static final int SHEETS = 4;
    private static final int LANE_LIMIT = 2;
    private static final int CELLS_LIMIT = 40;
    private static final int READ_LIMIT = 13;
    private static final int NET_SHIFT = 1000;

    private static final int FAULT_BASE = -10;
    private static final int REFUSED_BASE = -20;
    private static final int FAULT_NULL = 1;
    private static final int FAULT_INDEX = 2;
    private static final int FAULT_CAST = 3;
    private static final int FAULT_SIZE = 4;

    private final Land land;
    private final Land trial;
    private final Odds odds;
    private final RingFinder finder;
    private final Seen seen;
    private final Image[] images;
    private final Sheet[] sheets;
    private final Reader reader;
    private final int[] upBehind;
    private int textFault;
    private int tornBy;

    public DebtRides() {
        land = new Land();
        trial = new Land();
        odds = new Odds();
        finder = new RingFinder();
        seen = new Seen();
        images = new Image[IMAGES];
        for (int k = 0; k < IMAGES; k++) {
            images[k] = new Image();
        }
        sheets = new Sheet[SHEETS];
        for (int k = 0; k < SHEETS; k++) {
            sheets[k] = new Sheet();
        }
        reader = new Reader();
        upBehind = new int[NEAR_DAYS + 1];
    }

    // ---- the text

    public int feed(int c) {
        if (!within(c, 0, BYTE_LIMIT)) {
            return BAD;
        }
        if (reader.length >= TAPE_LIMIT) {
            return FULL;
        }
        reader.bytes[reader.length] = c;
        reader.length++;
        return reader.length;
    }

    public int end(int n) {
        if (!within(n, 0, reader.length)) {
            return BAD;
        }
        int had = reader.length;
        reader.length = n;
        return had;
    }

    public int text() {
        boolean taken = reader.takeAll();
        reader.length = 0;
        textFault = reader.foundFault;
        if (!taken) {
            return FAULT_BASE - reader.foundPlace;
        }
        land.become(reader.draft);
        seen.size = 0;
        for (int k = 0; k < IMAGES; k++) {
            images[k].kept = false;
        }
        return reader.lines;
    }

    public int fault() {
        return textFault;
    }

    public int rule(int what) {
        switch (what) {
            case 0:
                return land.people;
            case 1:
                return land.dayNumber;
            case 2:
                return land.dryness;
            case 3:
                return land.riders();
            case 4:
                return land.owedInAll();
            case 5:
                return land.moneyInAll();
            default:
                return BAD;
        }
    }

    public int one(int p, int what) {
        if (!land.has(p)) {
            return BAD;
        }
        switch (what) {
            case 0:
                return land.nature[p];
            case 1:
                return land.money[p];
            case 2:
                return land.wage[p];
            case 3:
                return land.owedBy(p);
            case 4:
                return land.owedTo(p);
            case 5:
                return land.heightOf(p);
            case 6:
                return land.willOf(p);
            default:
                return BAD;
        }
    }

    public int owes(int p, int q) {
        if (!land.hasPair(p, q)) {
            return BAD;
        }
        return land.debt(p, q);
    }

    public int meet(int p, int q) {
        if (!land.hasPair(p, q)) {
            return BAD;
        }
        int highP = land.heightOf(p);
        int highQ = land.heightOf(q);
        if (highP == highQ) {
            return NONE;
        }
        return highP < highQ ? p : q;
    }

    // ---- what is changed

    public int alter(int p, int what, int v) {
        if (!land.has(p)) {
            return BAD;
        }
        switch (what) {
            case 0:
                return swap(land.nature, p, v, KINDS_LIMIT - 1);
            case 1:
                return swap(land.money, p, v, MONEY_LIMIT);
            case 2:
                return swap(land.wage, p, v, WAGE_LIMIT);
            default:
                return BAD;
        }
    }

    public int bond(int p, int q, int v) {
        if (!land.hasPair(p, q) || !within(v, 0, TOLD_LIMIT)) {
            return BAD;
        }
        int was = land.debt(p, q);
        land.setDebt(p, q, v);
        return was;
    }

    public int dry(int v) {
        if (!within(v, 0, DRY_LIMIT)) {
            return BAD;
        }
        int was = land.dryness;
        land.dryness = v;
        return was;
    }

    public int lend(int p, int q, int n) {
        return land.lendTo(p, q, n);
    }

    public int pay(int p, int q, int n) {
        return land.payTo(p, q, n);
    }

    // ---- days

    public int days(int n) {
        if (!within(n, 0, NEAR_DAYS)) {
            return BAD;
        }
        if (land.dayNumber + n > DAY_LIMIT) {
            return FULL;
        }
        return land.runDays(n);
    }

    public int runs(int n, int what) {
        if (!within(n, 0, FAR_DAYS) || !within(what, 0, 3)) {
            return BAD;
        }
        trial.become(land);
        if (what == 3) {
            return trial.daysTillAllRide(n);
        }
        trial.runDays(n);
        if (what == 0) {
            return trial.owedInAll();
        }
        return what == 1 ? trial.riders() : trial.moneyInAll();
    }

    public int ahead(int p, int n, int what) {
        if (!land.has(p) || !within(n, 0, FAR_DAYS) || !within(what, 0, 2)) {
            return BAD;
        }
        trial.become(land);
        trial.runDays(n);
        if (what == 0) {
            return trial.owedBy(p);
        }
        return what == 1 ? trial.money[p] : trial.heightOf(p);
    }

    public int rides(int p) {
        if (!land.has(p)) {
            return BAD;
        }
        trial.become(land);
        return trial.daysTillRiding(p);
    }

    // ---- nets, rings

    public int net(int p) {
        if (!land.has(p)) {
            return BAD;
        }
        return land.netOf(p) + NET_SHIFT;
    }

    public int least() {
        int sum = 0;
        for (int p = 0; p < land.people; p++) {
            sum += Math.max(0, land.netOf(p));
        }
        return sum;
    }

    public int ring(int what) {
        boolean place = within(what, 10, 10 + PEOPLE_LIMIT - 1);
        if (!within(what, 0, 1) && !place) {
            return BAD;
        }
        if (!finder.find(land)) {
            return NONE;
        }
        if (what == 0) {
            return finder.size;
        }
        if (what == 1) {
            return finder.leastDebt(land);
        }
        return what - 10 < finder.size ? finder.row[what - 10] : NONE;
    }

    public int clear() {
        int before = land.owedInAll();
        // Each ring that is cleared ends one debt at least, so there are no more rings than debts.
        for (int i = 0; i < PEOPLE_LIMIT * PEOPLE_LIMIT && finder.find(land); i++) {
            finder.lessen(land, finder.leastDebt(land));
        }
        return before - land.owedInAll();
    }

    // ---- what is best

    public int give(int n, int what) {
        if (!within(n, 1, TOLD_LIMIT) || !within(what, 0, 1)) {
            return BAD;
        }
        int who = NONE;
        trial.become(land);
        int most = trial.ridersInTheEnd();
        for (int p = 0; p < land.people; p++) {
            trial.become(land);
            trial.gain(p, n);
            int up = trial.ridersInTheEnd();
            if (up > most) {
                most = up;
                who = p;
            }
        }
        if (who == NONE) {
            return NONE;
        }
        return what == 0 ? who : most;
    }

    public int forgive(int what) {
        if (!within(what, 0, 1)) {
            return BAD;
        }
        int which = NONE;
        trial.become(land);
        int most = trial.ridersInTheEnd();
        for (int p = 0; p < land.people; p++) {
            for (int q = 0; q < land.people; q++) {
                int up = land.debt(p, q) > 0 ? ridersIfForgiven(p, q) : 0;
                if (up > most) {
                    most = up;
                    which = 10 * p + q;
                }
            }
        }
        if (which == NONE) {
            return NONE;
        }
        return what == 0 ? which : most;
    }

    public int kind(int p, int what) {
        if (!land.has(p) || !within(what, 0, 1)) {
            return BAD;
        }
        int best = NONE;
        int soonest = FAR_DAYS + 1;
        for (int k = 0; k < KINDS_LIMIT; k++) {
            trial.become(land);
            trial.nature[p] = k;
            int behind = trial.daysTillRiding(p);
            if (behind != NONE && behind < soonest) {
                soonest = behind;
                best = k;
            }
        }
        if (best == NONE) {
            return NONE;
        }
        return what == 0 ? best : soonest;
    }

    public int late(int p, int n) {
        if (!land.has(p) || !within(n, 0, DRY_LIMIT)) {
            return BAD;
        }
        int wet = daysByDryness(p, 0);
        int parched = daysByDryness(p, n);
        if (wet == NONE || parched == NONE) {
            return NONE;
        }
        return parched - wet;
    }

    public int train(int n, int what) {
        if (!within(n, 0, FAR_DAYS) || !within(what, 0, 1)) {
            return BAD;
        }
        trial.become(land);
        trial.runDays(n);
        int who = NONE;
        int most = 0;
        for (int p = 0; p < trial.people; p++) {
            int owed = trial.owedBy(p);
            if (owed > most) {
                most = owed;
                who = p;
            }
        }
        if (who == NONE) {
            return NONE;
        }
        return what == 0 ? who : most;
    }

    // ---- dry days by odds

    public long luck(int v, int p, int n, int what) {
        if (!land.has(p) || !areOdds(v, n, what)) {
            return BAD;
        }
        return odds.fractionOf(land, v, p, n, what);
    }

    public long mean(int v, int n, int what) {
        if (!areOdds(v, n, what)) {
            return BAD;
        }
        return odds.fractionOf(land, v, Odds.ALL_THAT_IS_OWED, n, what);
    }

    // ---- from who rode when

    public int see(int n, int p, boolean rides) {
        if (!within(n, 0, NEAR_DAYS) || !land.has(p)) {
            return BAD;
        }
        if (seen.size >= SEEN_LIMIT) {
            return FULL;
        }
        seen.add(n, p, rides);
        return seen.size;
    }

    public int forget(int n) {
        if (!within(n, 0, seen.size)) {
            return BAD;
        }
        int were = seen.size;
        seen.size = n;
        return were;
    }

    public int kinds(int p) {
        if (!land.has(p)) {
            return BAD;
        }
        int bits = 0;
        for (int k = 0; k < KINDS_LIMIT; k++) {
            trial.become(land);
            trial.nature[p] = k;
            if (seen.fits(trial)) {
                bits |= 1 << k;
            }
        }
        return bits;
    }

    public int earns(int p) {
        if (!land.has(p)) {
            return BAD;
        }
        return possibleWages(p);
    }

    public int ask(int p, int what) {
        if (!land.has(p) || !within(what, 0, 1)) {
            return BAD;
        }
        int possible = possibleWages(p);
        countUpBehind(p, possible);
        int now = Integer.bitCount(possible);
        int fewest = now;
        int behind = NONE;
        for (int d = 0; d <= NEAR_DAYS; d++) {
            int worst = Math.max(upBehind[d], now - upBehind[d]);
            if (worst < fewest) {
                fewest = worst;
                behind = d;
            }
        }
        if (behind == NONE) {
            return NONE;
        }
        return what == 0 ? behind : fewest;
    }

    // ---- by a seed

    public int drift(int seed, int n, int what) {
        if (!within(n, 1, FAR_DAYS) || !within(what, 0, 1)) {
            return BAD;
        }
        int people = land.people;
        if (people == 0) {
            return STATE;
        }
        trial.become(land);
        int s = seed;
        for (int d = 0; d < n; d++) {
            s = s * 1103515245 + 12345;
            int got = (s >>> 16) & 0x7fff;
            // A loan that can not be made is refused by lendTo, which then changes nothing.
            trial.lendTo(got % people, got / 8 % people, 1 + got / 64 % 9);
            trial.runDay(trial.dryness);
        }
        return what == 0 ? trial.owedInAll() : trial.riders();
    }

    // ---- images, sheets

    public int keep(int k) {
        if (!within(k, 0, IMAGES - 1)) {
            return BAD;
        }
        Image image = images[k];
        int was = image.kept ? 1 : 0;
        image.kept = true;
        image.keptLand.become(land);
        image.keptSeen.become(seen);
        return was;
    }

    public int back(int k) {
        if (!within(k, 0, IMAGES - 1)) {
            return BAD;
        }
        Image image = images[k];
        if (!image.kept) {
            return STATE;
        }
        land.become(image.keptLand);
        seen.become(image.keptSeen);
        return land.dayNumber;
    }

    public int sheet(int k, int lane, int n) {
        if (!isSheet(k) || !within(lane, 0, LANE_LIMIT) || n > CELLS_LIMIT) {
            return BAD;
        }
        if (n < 0) {
            return FAULT_BASE - FAULT_SIZE;
        }
        sheets[k].renew(lane, n);
        return 1;
    }

    public int lay(int k, int i, int v) {
        if (!isSheet(k)) {
            return BAD;
        }
        int found = sheets[k].faultOfLaying(i);
        if (found != 0) {
            return FAULT_BASE - found;
        }
        sheets[k].put(i, v);
        return 1;
    }

    public int read(int k, int lane, int f, int n) {
        if (!isSheet(k) || !within(lane, 0, LANE_LIMIT) || !within(n, 0, READ_LIMIT)) {
            return BAD;
        }
        Sheet sheet = sheets[k];
        // Paid on trial first: one refusal and none of them came.
        trial.become(land);
        int found = 0;
        int came = 0;
        for (int i = 0; i < n && found == 0; i++) {
            int at = f + 3 * i;
            found = sheet.faultOfReading(lane, at);
            if (found == 0) {
                if (trial.payTo(sheet.cells[at], sheet.cells[at + 1], sheet.cells[at + 2]) < 0) {
                    return REFUSED_BASE - i;
                }
                came++;
            }
        }
        land.become(trial);
        tornBy = found;
        return came;
    }

    public int torn() {
        return tornBy;
    }

    public int count(int what) {
        switch (what) {
            case 0:
                return seen.size;
            case 1:
                return imagesKept();
            case 2:
                return reader.length;
            case 3:
                return sheets[0].there ? sheets[0].size : NONE;
            case 4:
                return land.debtsInAll();
            default:
                return BAD;
        }
    }

    // ---- helpers

    private static boolean within(int v, int lowest, int highest) {
        return v >= lowest && v <= highest;
    }

    private static boolean areOdds(int v, int n, int what) {
        return within(v, 0, TEN) && within(n, 0, LUCK_DAYS) && within(what, 0, 1);
    }

    private static boolean isSheet(int k) {
        return within(k, 0, SHEETS - 1);
    }

    private static int swap(int[] row, int p, int v, int highest) {
        if (!within(v, 0, highest) || !within(p, 0, row.length - 1)) {
            return BAD;
        }
        int was = row[p];
        row[p] = v;
        return was;
    }

    private int ridersIfForgiven(int p, int q) {
        trial.become(land);
        trial.setDebt(p, q, 0);
        return trial.ridersInTheEnd();
    }

    private int daysByDryness(int p, int dryness) {
        trial.become(land);
        trial.dryness = dryness;
        return trial.daysTillRiding(p);
    }

    private int possibleWages(int p) {
        int bits = 0;
        for (int e = 0; e <= WAGE_LIMIT; e++) {
            trial.become(land);
            trial.wage[p] = e;
            if (seen.fits(trial)) {
                bits |= 1 << e;
            }
        }
        return bits;
    }

    private void countUpBehind(int p, int wages) {
        Arrays.fill(upBehind, 0);
        for (int e = 0; e <= WAGE_LIMIT; e++) {
            if ((wages >> e & 1) == 1) {
                trial.become(land);
                trial.wage[p] = e;
                for (int d = 0; d <= NEAR_DAYS; d++) {
                    if (trial.isRiding(p)) {
                        upBehind[d]++;
                    }
                    trial.runDay(trial.dryness);
                }
            }
        }
    }

    private int imagesKept() {
        int sum = 0;
        for (int k = 0; k < IMAGES; k++) {
            if (images[k].kept) {
                sum++;
            }
        }
        return sum;
    }

    /** PEOPLE, what they OWE, DAY and DRY: all that an image holds but for what was SEEN. */
    private static final class Land {
        private static final int PLAIN = 0, WIDOW = 1, SQUIRE = 2;
        private static final int MISER_PAYS_FROM = 10;

        int people;
        int dayNumber;
        int dryness;
        final int[] nature = new int[PEOPLE_LIMIT];
        final int[] money = new int[PEOPLE_LIMIT];
        final int[] wage = new int[PEOPLE_LIMIT];
        final int[] debts = new int[PEOPLE_LIMIT * PEOPLE_LIMIT];

        void empty() {
            people = 0;
            dayNumber = 0;
            dryness = 0;
            Arrays.fill(debts, 0);
        }

        void become(Land other) {
            people = other.people;
            dayNumber = other.dayNumber;
            dryness = other.dryness;
            System.arraycopy(other.nature, 0, nature, 0, PEOPLE_LIMIT);
            System.arraycopy(other.money, 0, money, 0, PEOPLE_LIMIT);
            System.arraycopy(other.wage, 0, wage, 0, PEOPLE_LIMIT);
            System.arraycopy(other.debts, 0, debts, 0, debts.length);
        }

        boolean has(int p) {
            return p >= 0 && p < people;
        }

        boolean hasPair(int p, int q) {
            return has(p) && has(q) && p != q;
        }

        int debt(int p, int q) {
            return debts[p * PEOPLE_LIMIT + q];
        }

        void setDebt(int p, int q, int v) {
            debts[p * PEOPLE_LIMIT + q] = v;
        }

        // The sums read the row itself: by debt() the longest chain of calls would grow beyond what is allowed.
        int owedBy(int p) {
            int sum = 0;
            for (int q = 0; q < people; q++) {
                sum += debts[p * PEOPLE_LIMIT + q];
            }
            return sum;
        }

        int owedTo(int p) {
            int sum = 0;
            for (int q = 0; q < people; q++) {
                sum += debts[q * PEOPLE_LIMIT + p];
            }
            return sum;
        }

        int netOf(int p) {
            return owedBy(p) - owedTo(p);
        }

        int owedInAll() {
            int sum = 0;
            for (int p = 0; p < people; p++) {
                sum += owedBy(p);
            }
            return sum;
        }

        int debtsInAll() {
            int sum = 0;
            for (int i = 0; i < debts.length; i++) {
                if (debts[i] > 0) {
                    sum++;
                }
            }
            return sum;
        }

        int moneyInAll() {
            int sum = 0;
            for (int p = 0; p < people; p++) {
                sum += money[p];
            }
            return sum;
        }

        boolean isRiding(int p) {
            return owedBy(p) == 0;
        }

        int riders() {
            int bits = 0;
            for (int p = 0; p < people; p++) {
                if (isRiding(p)) {
                    bits |= 1 << p;
                }
            }
            return bits;
        }

        int heightOf(int p) {
            if (!isRiding(p)) {
                return 0;
            }
            int claims = owedTo(p);
            int halfUp = (claims + 1) / 2;
            switch (nature[p]) {
                case PLAIN:
                    return claims;
                case WIDOW:
                    return halfUp;
                case SQUIRE:
                    return 2 * claims + 1;
                default:
                    return Math.max(0, halfUp - 1);
            }
        }

        int willOf(int p) {
            switch (nature[p]) {
                case PLAIN:
                    return money[p];
                case WIDOW:
                    return money[p] / 2;
                case SQUIRE:
                    return money[p] / 4;
                default:
                    return owedBy(p) >= MISER_PAYS_FROM ? money[p] / 2 : 0;
            }
        }

        void gain(int p, int n) {
            int sum = money[p] + n;
            money[p] = sum > MONEY_LIMIT ? MONEY_LIMIT : sum;
        }

        int lendTo(int p, int q, int n) {
            if (!hasPair(p, q) || !within(n, 1, TOLD_LIMIT)) {
                return BAD;
            }
            int owed = debt(q, p) + n;
            if (money[p] < n || owed > TOLD_LIMIT || money[q] + n > MONEY_LIMIT) {
                return STATE;
            }
            money[p] -= n;
            money[q] += n;
            setDebt(q, p, owed);
            return owed;
        }

        int payTo(int p, int q, int n) {
            if (!hasPair(p, q) || !within(n, 1, TOLD_LIMIT)) {
                return BAD;
            }
            if (debt(p, q) < n || money[p] < n) {
                return STATE;
            }
            handOver(p, q, n);
            return debt(p, q);
        }

        private void handOver(int p, int q, int n) {
            money[p] -= n;
            setDebt(p, q, debt(p, q) - n);
            gain(q, n);
        }

        int runDay(int drynessThen) {
            for (int p = 0; p < people; p++) {
                gain(p, Math.max(0, wage[p] - drynessThen));
            }
            int paid = 0;
            for (int p = 0; p < people; p++) {
                paid += payOut(p);
            }
            dayNumber++;
            return paid;
        }

        private int payOut(int p) {
            int purse = willOf(p);
            int left = purse;
            for (int q = 0; q < people && left > 0; q++) {
                int part = Math.min(left, debt(p, q));
                if (part > 0) {
                    handOver(p, q, part);
                    left -= part;
                }
            }
            return purse - left;
        }

        int runDays(int n) {
            int paid = 0;
            for (int d = 0; d < n; d++) {
                paid += runDay(dryness);
            }
            return paid;
        }

        int ridersInTheEnd() {
            for (int d = 0; d < NEAR_DAYS; d++) {
                runDay(dryness);
            }
            return Integer.bitCount(riders());
        }

        int daysTillRiding(int p) {
            for (int d = 0; d <= FAR_DAYS; d++) {
                if (isRiding(p)) {
                    return d;
                }
                runDay(dryness);
            }
            return NONE;
        }

        int daysTillAllRide(int n) {
            for (int d = 0; d <= n; d++) {
                if (owedInAll() == 0) {
                    return d;
                }
                runDay(dryness);
            }
            return NONE;
        }
    }

    /** The mean of something behind days each of which may be a dry one. */
    private static final class Odds {
        static final int ALL_THAT_IS_OWED = -1;
        // Euclid's steps for numbers below 10 to the 12th are fewer than 60.
        private static final int EUCLID_LIMIT = 100;

        // One land for each day that is open at once, so that no call makes any.
        final Land[] steps = new Land[LUCK_DAYS + 1];

        Odds() {
            for (int i = 0; i < steps.length; i++) {
                steps[i] = new Land();
            }
        }

        /** The numerator (what 0) or the denominator (what 1) of the mean of p's riding, or of all that is owed. */
        long fractionOf(Land land, int v, int p, int n, int what) {
            steps[0].become(land);
            long top = weighed(0, v, p, n);
            long bottom = 1;
            for (int d = 0; d < n; d++) {
                bottom *= TEN;
            }
            long common = Math.max(1, commonDivisor(bottom, top));
            return (what == 0 ? top : bottom) / common;
        }

        /** What is behind the days from this level on, summed by its weights out of ten for each day. */
        private long weighed(int level, int v, int p, int n) {
            if (level >= n || level + 1 >= steps.length) {
                return worth(steps[level], p);
            }
            long sum = 0;
            Land next = steps[level + 1];
            for (int turn = 0; turn < 2; turn++) {
                int weight = turn == 0 ? v : TEN - v;
                if (weight > 0) {
                    next.become(steps[level]);
                    next.runDay(turn == 0 ? DRY_LIMIT : next.dryness);
                    sum += weight * weighed(level + 1, v, p, n);
                }
            }
            return sum;
        }

        private static long worth(Land land, int p) {
            if (p == ALL_THAT_IS_OWED) {
                return land.owedInAll();
            }
            return land.isRiding(p) ? 1 : 0;
        }

        private static long commonDivisor(long a, long b) {
            long x = a;
            long y = b;
            for (int i = 0; i < EUCLID_LIMIT && y != 0; i++) {
                long rest = x % y;
                x = y;
                y = rest;
            }
            return x;
        }
    }

    /** Finds the ring of fewest people, of several the first by its row. */
    private static final class RingFinder {
        final int[] row = new int[PEOPLE_LIMIT];
        int size;

        boolean find(Land land) {
            for (int n = 2; n <= land.people; n++) {
                size = n;
                for (int p = 0; p < land.people; p++) {
                    row[0] = p;
                    if (closes(land, 1)) {
                        return true;
                    }
                }
            }
            size = 0;
            return false;
        }

        /** Whether the first so many of the row can be led on to a ring of the size that is sought. */
        private boolean closes(Land land, int filled) {
            int last = row[filled - 1];
            if (filled >= size) {
                return land.debt(last, row[0]) > 0;
            }
            // A ring begins with the least of its people, so none behind him is below him.
            for (int q = row[0] + 1; q < land.people; q++) {
                if (land.debt(last, q) > 0 && !stands(q, filled)) {
                    row[filled] = q;
                    if (closes(land, filled + 1)) {
                        return true;
                    }
                }
            }
            return false;
        }

        private boolean stands(int q, int filled) {
            for (int i = 0; i < filled; i++) {
                if (row[i] == q) {
                    return true;
                }
            }
            return false;
        }

        private int behind(int i) {
            return i + 1 < size ? row[i + 1] : row[0];
        }

        int leastDebt(Land land) {
            int least = TOLD_LIMIT;
            for (int i = 0; i < size; i++) {
                least = Math.min(least, land.debt(row[i], behind(i)));
            }
            return least;
        }

        void lessen(Land land, int by) {
            for (int i = 0; i < size; i++) {
                land.setDebt(row[i], behind(i), land.debt(row[i], behind(i)) - by);
            }
        }
    }

    /** Who was seen riding, or not, behind how many days. */
    private static final class Seen {
        final int[] day = new int[SEEN_LIMIT];
        final int[] who = new int[SEEN_LIMIT];
        final int[] riding = new int[SEEN_LIMIT];
        int size;

        void add(int n, int p, boolean isRiding) {
            if (size < SEEN_LIMIT) {
                day[size] = n;
                who[size] = p;
                riding[size] = isRiding ? 1 : 0;
                size++;
            }
        }

        void become(Seen other) {
            size = other.size;
            System.arraycopy(other.day, 0, day, 0, SEEN_LIMIT);
            System.arraycopy(other.who, 0, who, 0, SEEN_LIMIT);
            System.arraycopy(other.riding, 0, riding, 0, SEEN_LIMIT);
        }

        /** Runs the land's days; whether all was then as seen. */
        boolean fits(Land land) {
            int last = lastDay();
            for (int d = 0; d <= last; d++) {
                if (!fitsOn(d, land)) {
                    return false;
                }
                land.runDay(land.dryness);
            }
            return true;
        }

        private int lastDay() {
            int last = -1;
            for (int i = 0; i < size; i++) {
                last = Math.max(last, day[i]);
            }
            return last;
        }

        private boolean fitsOn(int d, Land land) {
            for (int i = 0; i < size; i++) {
                if (day[i] == d && land.isRiding(who[i]) != (riding[i] == 1)) {
                    return false;
                }
            }
            return true;
        }
    }

    /** What keep() holds and back() brings again. */
    private static final class Image {
        boolean kept;
        final Land keptLand = new Land();
        final Seen keptSeen = new Seen();
    }

    /** A row of cells of one lane, or nothing. */
    private static final class Sheet {
        private static final int BYTES = 0, SHORTS = 1;

        boolean there;
        int laneOf;
        int size;
        final int[] cells = new int[CELLS_LIMIT];

        void renew(int lane, int n) {
            there = true;
            laneOf = lane;
            size = n;
            Arrays.fill(cells, 0);
        }

        int faultOfLaying(int i) {
            if (!there) {
                return FAULT_NULL;
            }
            return i >= 0 && i < size ? 0 : FAULT_INDEX;
        }

        /** The fault of three cells from the one at this place on. */
        int faultOfReading(int lane, int at) {
            if (!there) {
                return FAULT_NULL;
            }
            if (lane != laneOf) {
                return FAULT_CAST;
            }
            return at >= 0 && at <= size - 3 ? 0 : FAULT_INDEX;
        }

        void put(int i, int v) {
            if (laneOf == BYTES) {
                cells[i] = (byte) v;
            } else if (laneOf == SHORTS) {
                cells[i] = (short) v;
            } else {
                cells[i] = v;
            }
        }
    }

    /** THE TAPE, and what reads it, token by token, into a draft of the land. */
    private static final class Reader {
        private static final int END = 0, NAME = 1, NUMBER = 2, SEMICOLON = 3, STRANGE = 4;
        private static final int NO_TOKEN = 1, MISPLACED = 2, OUT_OF_BOUNDS = 3, TWICE = 4, TOO_MANY = 5, NOBODY = 6;
        private static final int FIGURES_LIMIT = 2;

        final int[] bytes = new int[TAPE_LIMIT];
        int length;
        final Land draft = new Land();
        int lines;
        int foundFault;
        int foundPlace;
        private int place;
        private int sort;
        private int start;
        private int value;
        private boolean dryTold;
        private int highestOne;

        boolean takeAll() {
            draft.empty();
            lines = 0;
            foundFault = 0;
            foundPlace = 0;
            place = 0;
            dryTold = false;
            highestOne = -1;
            boolean sound = next();
            // A line takes more than one byte, so the length is more rounds than any tape needs.
            for (int round = 0; round < length && sound && sort != END; round++) {
                sound = takeLine() && next();
            }
            return sound && everyoneIsThere();
        }

        private boolean fail(int code, int at) {
            foundFault = code;
            foundPlace = at;
            return false;
        }

        private boolean everyoneIsThere() {
            return highestOne < draft.people || fail(NOBODY, length);
        }

        private boolean takeLine() {
            int nature = natureNamed();
            boolean sound;
            if (nature >= 0) {
                sound = takePerson(nature);
            } else if (isName("owes")) {
                sound = takeOwes();
            } else if (isName("dry")) {
                sound = takeDry();
            } else {
                sound = fail(MISPLACED, start);
            }
            if (sound) {
                lines++;
            }
            return sound;
        }

        private int natureNamed() {
            if (isName("plain")) {
                return 0;
            }
            if (isName("widow")) {
                return 1;
            }
            if (isName("squire")) {
                return 2;
            }
            return isName("miser") ? 3 : -1;
        }

        private boolean takePerson(int nature) {
            int p = draft.people;
            if (p >= PEOPLE_LIMIT) {
                return fail(TOO_MANY, start);
            }
            if (!takeNumber(0, TOLD_LIMIT)) {
                return false;
            }
            draft.money[p] = value;
            if (!takeNumber(0, WAGE_LIMIT)) {
                return false;
            }
            draft.wage[p] = value;
            draft.nature[p] = nature;
            draft.people++;
            return takeSemicolon();
        }

        private boolean takeOwes() {
            if (!takeNumber(0, PEOPLE_LIMIT - 1)) {
                return false;
            }
            int who = value;
            if (!takeNumber(0, PEOPLE_LIMIT - 1)) {
                return false;
            }
            int whom = value;
            if (whom == who) {
                return fail(OUT_OF_BOUNDS, start);
            }
            if (draft.debt(who, whom) > 0) {
                return fail(TWICE, start);
            }
            if (!takeNumber(1, TOLD_LIMIT)) {
                return false;
            }
            draft.setDebt(who, whom, value);
            highestOne = Math.max(highestOne, Math.max(who, whom));
            return takeSemicolon();
        }

        private boolean takeDry() {
            if (dryTold) {
                return fail(TWICE, start);
            }
            dryTold = true;
            if (!takeNumber(0, DRY_LIMIT)) {
                return false;
            }
            draft.dryness = value;
            return takeSemicolon();
        }

        private boolean takeNumber(int lowest, int highest) {
            if (!next()) {
                return false;
            }
            if (sort != NUMBER) {
                return fail(MISPLACED, start);
            }
            value = 0;
            for (int i = start; i < place; i++) {
                value = value * 10 + bytes[i] - '0';
            }
            return within(value, lowest, highest) || fail(OUT_OF_BOUNDS, start);
        }

        private boolean takeSemicolon() {
            return next() && (sort == SEMICOLON || fail(MISPLACED, start));
        }

        private boolean next() {
            while (place < length && bytes[place] == ' ') {
                place++;
            }
            start = place;
            sort = sortAt(place);
            if (sort == NAME || sort == NUMBER) {
                while (place < length && sortAt(place) == sort) {
                    place++;
                }
            } else if (sort == SEMICOLON) {
                place++;
            }
            boolean tooLong = sort == NUMBER && place - start > FIGURES_LIMIT;
            return sort != STRANGE && !tooLong || fail(NO_TOKEN, start);
        }

        private int sortAt(int at) {
            if (at >= length) {
                return END;
            }
            int c = bytes[at];
            if (c >= 'a' && c <= 'z') {
                return NAME;
            }
            if (c >= '0' && c <= '9') {
                return NUMBER;
            }
            return c == ';' ? SEMICOLON : STRANGE;
        }

        private boolean isName(String word) {
            if (sort != NAME || place - start != word.length()) {
                return false;
            }
            for (int i = 0; i < word.length(); i++) {
                if (bytes[start + i] != word.charAt(i)) {
                    return false;
                }
            }
            return true;
        }
    }
}
