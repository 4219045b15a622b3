/** The boundary cases of SEEN (Terms) and of promises 30 to 35, each sentence by a method of its own. */
public final class EdgeSeenTest {
    private static final Due DUE = new Due("EdgeSeenTest");
    private static final String ONE = "plain 0 0;";
    private static final String TWO = ONE.repeat(2);
    private static final String FIVE = ONE.repeat(5);

    public static void main(String[] args) {
        seeing();
        forgetting();
        telling();
        asking();
        drifting();
        DUE.close();
    }

    private static void seeing() {
        seeBounds();
        seenNow();
        seenOnTheLastDay();
        seeFull();
        seeBadAheadOfFull();
    }

    private static void forgetting() {
        forgetBounds();
        forgetKeepsTheFirst();
    }

    private static void telling() {
        kindsBounds();
        kindsOfNothingSeen();
        kindsOfWhatNeverIs();
        kindsEach();
        earnsBounds();
        earnsOfNothingSeen();
        earnsOfWhatNeverIs();
        earnsLeastAndMost();
        allElseAsItIs();
    }

    private static void asking() {
        askBounds();
        askTheFirst();
        askOnTheLastDay();
        askFewerThanNow();
        askNone();
    }

    private static void drifting() {
        driftBounds();
        driftOfNobody();
        driftBadAheadOfState();
        driftWraps();
        driftBits();
        driftIfHeCan();
        driftByItself();
    }

    /** ONE 0 is plain, earns so much and owes ONE 1, who has nothing and owes nobody, so much. */
    private static DebtRides earner(int earns, int owes) {
        DebtRides x = Due.told(TWO);
        x.alter(0, 2, earns);
        x.bond(0, 1, owes);
        return x;
    }

    // ---- promise 30

    private static void seeBounds() {
        DUE.sentence("30: see(n 0 to 30, p, rides) .. BAD");
        DUE.bounds("n", () -> Due.told(TWO), 0, 30, (x, v) -> x.see(v, 0, true));
        DUE.bounds("p", () -> Due.told(TWO), 0, 1, (x, v) -> x.see(0, v, false));
        DUE.bounds("p of five", () -> Due.told(FIVE), 0, 4, (x, v) -> x.see(0, v, false));
        DUE.is("nobody", new DebtRides().see(0, 0, true), Due.BAD);
    }

    private static void seenNow() {
        DUE.sentence("SEEN: behind n DAYS (0 ..) from now on a ONE RIDES, or not");
        DebtRides x = earner(9, 9);
        x.see(0, 0, false);
        DUE.is("he owes now", x.earns(0), 1023);
        x.see(0, 0, true);
        DUE.is("never both", x.earns(0), 0);
        x.forget(0);
        x.see(0, 1, true);
        DUE.is("the other rides now", x.earns(0), 1023);
    }

    private static void seenOnTheLastDay() {
        DUE.sentence("SEEN: behind n DAYS (.. 30)");
        DebtRides x = earner(0, 30);
        x.see(30, 0, true);
        DUE.is("1 or more", x.earns(0), 1022);
        x.see(29, 0, false);
        DUE.is("1", x.earns(0), 2);
        x.bond(0, 1, 31);
        DUE.is("a day too late", x.earns(0), 0);
    }

    private static void seeFull() {
        DUE.sentence("30: how many are .. FULL (SEEN (6))");
        DebtRides x = earner(9, 9);
        for (int i = 1; i <= 6; i++) {
            DUE.is("the same is seen again", x.see(1, 0, true), i);
        }
        DUE.is("the 7th", x.see(1, 0, true), Due.FULL);
        DUE.is("the 7th, of another", x.see(2, 1, false), Due.FULL);
        DUE.is("how many", x.count(0), 6);
        DUE.is("as before", x.earns(0), 512);
        x.forget(5);
        DUE.is("the 6th again", x.see(1, 0, false), 6);
        DUE.is("never so", x.earns(0), 0);
    }

    private static void seeBadAheadOfFull() {
        DUE.sentence("30: BAD; FULL (the first that fits)");
        DebtRides x = Due.told(TWO);
        for (int i = 0; i < 6; i++) {
            x.see(i, 0, true);
        }
        DUE.is("31", x.see(31, 0, true), Due.BAD);
        DUE.is("-1", x.see(-1, 0, true), Due.BAD);
        DUE.is("no such one", x.see(0, 2, true), Due.BAD);
        DUE.is("sound", x.see(0, 1, true), Due.FULL);
    }

    // ---- promise 31

    private static DebtRides seenThrice() {
        DebtRides x = earner(2, 6);
        x.see(3, 0, true);
        x.see(2, 0, false);
        x.see(0, 0, true);
        return x;
    }

    private static void forgetBounds() {
        DUE.sentence("31: SEEN are the first n alone: how many there were. BAD");
        DUE.bounds("n", EdgeSeenTest::seenThrice, 0, 3, (x, v) -> x.forget(v));
        DebtRides x = Due.told(TWO);
        DUE.is("0 of none", x.forget(0), 0);
        DUE.is("1 of none", x.forget(1), Due.BAD);
        for (int i = 0; i < 6; i++) {
            x.see(0, 0, true);
        }
        DUE.is("7 of 6", x.forget(7), Due.BAD);
        DUE.is("6 of 6", x.forget(6), 6);
        DUE.is("0 of 6", x.forget(0), 6);
        DUE.is("0 of 0", x.forget(0), 0);
    }

    private static void forgetKeepsTheFirst() {
        DUE.sentence("31: the first n alone");
        DebtRides x = seenThrice();
        DUE.is("all three", x.earns(0), 0);
        DUE.is("2 of 3", x.forget(2), 3);
        DUE.is("the first two", x.earns(0), 4);
        DUE.is("1 of 2", x.forget(1), 2);
        DUE.is("the first", x.earns(0), 1020);
        DUE.is("0 of 1", x.forget(0), 1);
        DUE.is("none", x.earns(0), 1023);
    }

    // ---- promises 32, 33

    private static void kindsBounds() {
        DUE.sentence("32: kinds(p) .. BAD");
        DUE.bounds("p", () -> Due.told(TWO), 0, 1, (x, v) -> x.kinds(v));
        DUE.is("nobody", new DebtRides().kinds(0), Due.BAD);
    }

    private static void kindsOfNothingSeen() {
        DUE.sentence("32: KINDS (bits) by which all is as SEEN (nothing is SEEN)");
        DUE.is("all of them", earner(1, 99).kinds(0), 15);
        DUE.is("all of them", earner(1, 99).kinds(1), 15);
    }

    private static void kindsOfWhatNeverIs() {
        DUE.sentence("32: KINDS (bits) by which all is as SEEN (by none it is)");
        DebtRides x = earner(0, 1);
        x.see(30, 0, true);
        DUE.is("0", x.kinds(0), 0);
        DUE.is("0, of the other", x.kinds(1), 0);
    }

    private static void kindsEach() {
        DUE.sentence("32: KINDS of a ONE (bits)");
        DebtRides x = earner(0, 9);
        x.alter(0, 1, 9);
        x.see(1, 0, true);
        DUE.is("plain", x.kinds(0), 1);
        x.alter(0, 1, 18);
        DUE.is("plain, widow", x.kinds(0), 3);
        x.alter(0, 1, 36);
        DUE.is("all but the miser", x.kinds(0), 7);
        x.bond(0, 1, 10);
        x.alter(0, 1, 40);
        DUE.is("all", x.kinds(0), 15);
        x.forget(0);
        x.see(1, 0, false);
        DUE.is("none", x.kinds(0), 0);
        x.bond(0, 1, 9);
        DUE.is("the miser", x.kinds(0), 8);
        DUE.is("he is what he was", x.one(0, 0), 0);
    }

    private static void earnsBounds() {
        DUE.sentence("33: earns(p) .. BAD");
        DUE.bounds("p", () -> Due.told(TWO), 0, 1, (x, v) -> x.earns(v));
        DUE.is("nobody", new DebtRides().earns(0), Due.BAD);
    }

    private static void earnsOfNothingSeen() {
        DUE.sentence("33: What a ONE may EARN (bits 0 to 9) (nothing is SEEN)");
        DUE.is("all", earner(1, 99).earns(0), 1023);
        DUE.is("all", earner(1, 99).earns(1), 1023);
    }

    private static void earnsOfWhatNeverIs() {
        DUE.sentence("33: so that all is as SEEN (by nothing it is)");
        DebtRides x = earner(0, 10);
        x.see(1, 0, true);
        DUE.is("9 are not enough", x.earns(0), 0);
        DebtRides y = earner(9, 1);
        y.dry(9);
        y.see(30, 0, true);
        DUE.is("dry", y.earns(0), 0);
    }

    private static void earnsLeastAndMost() {
        DUE.sentence("33: (bits 0 to 9)");
        DebtRides x = earner(5, 9);
        x.see(1, 0, true);
        DUE.is("9", x.earns(0), 512);
        x.bond(0, 1, 1);
        x.forget(0);
        x.see(30, 0, false);
        DUE.is("0", x.earns(0), 1);
        DUE.is("he earns what he did", x.one(0, 2), 5);
    }

    private static void allElseAsItIs() {
        DUE.sentence("32, 33: all else as it is");
        DebtRides x = earner(2, 6);
        x.see(3, 0, true);
        DUE.is("kinds of 0, who earns 2", x.kinds(0), 1);
        DUE.is("kinds of 1: as it is it fits", x.kinds(1), 15);
        DUE.is("earns of 1: as it is it fits", x.earns(1), 1023);
        x.alter(0, 2, 1);
        DUE.is("kinds of 0, who earns 1", x.kinds(0), 0);
        DUE.is("earns of 1: it does not fit", x.earns(1), 0);
        DUE.is("earns of 0", x.earns(0), 1020);
        x.dry(7);
        DUE.is("earns of 0, if it is dry", x.earns(0), 512);
    }

    // ---- promise 34

    private static void askBounds() {
        DUE.sentence("34: ask(p, what) .. BAD");
        DUE.bounds("p", () -> earner(1, 9), 0, 1, (x, v) -> x.ask(v, 0));
        DUE.bounds("what", () -> earner(1, 9), 0, 1, (x, v) -> x.ask(0, v));
        DUE.is("nobody", new DebtRides().ask(0, 0), Due.BAD);
    }

    private static void asks(DebtRides x, int behind, int left) {
        DUE.is("behind", x.ask(0, 0), behind);
        DUE.is("left", x.ask(0, 1), left);
    }

    private static void askTheFirst() {
        DUE.sentence("34: fewest are left at the worst, .. the first (what 0), how many these are (1)");
        // 5 to 9 ride behind 1.
        asks(earner(1, 5), 1, 5);
        // Behind 3 of 0, 1, 2 ride 2, behind 6 ride 1 and 2: 2 are left either way.
        DebtRides x = earner(1, 6);
        x.see(2, 0, false);
        DUE.is("0 to 2", x.earns(0), 7);
        asks(x, 3, 2);
        // Behind 1 ride 9, behind 2 ride 5 to 9, behind 3 ride 3 to 9.
        asks(earner(1, 9), 2, 5);
    }

    private static void askOnTheLastDay() {
        DUE.sentence("34: Behind how many DAYS (0 to 30)");
        DebtRides x = earner(1, 30);
        x.see(29, 0, false);
        DUE.is("0 or 1", x.earns(0), 3);
        asks(x, 30, 1);
        x.bond(0, 1, 31);
        DUE.is("0 or 1 still", x.earns(0), 3);
        asks(x, Due.NONE, Due.NONE);
    }

    private static void askFewerThanNow() {
        DUE.sentence("34: fewer than now");
        // By a dryness of 8 who earns 9 is told from all others behind 30 alone: nine of ten are left, and that is fewer.
        DebtRides x = earner(1, 30);
        x.dry(8);
        asks(x, 30, 9);
        x.bond(0, 1, 31);
        asks(x, Due.NONE, Due.NONE);
    }

    private static void askNone() {
        DUE.sentence("34: NONE: behind none");
        DebtRides x = earner(1, 9);
        x.see(1, 0, true);
        DUE.is("9 alone", x.earns(0), 512);
        asks(x, Due.NONE, Due.NONE);
        x.see(0, 0, true);
        DUE.is("nothing fits", x.earns(0), 0);
        asks(x, Due.NONE, Due.NONE);
        asks(earner(1, 0), Due.NONE, Due.NONE);
        DebtRides dry = earner(1, 1);
        dry.dry(9);
        asks(dry, Due.NONE, Due.NONE);
    }

    // ---- promise 35

    private static void driftBounds() {
        DUE.sentence("35: n DAYS (1 to 60), what .. BAD");
        DUE.bounds("n", () -> Due.told(TWO), 1, 60, (x, v) -> x.drift(7, v, 0));
        DUE.bounds("what", () -> Due.told(TWO), 0, 1, (x, v) -> x.drift(7, 1, v));
    }

    private static void driftOfNobody() {
        DUE.sentence("35: STATE: there is nobody");
        DUE.is("owed", new DebtRides().drift(7, 1, 0), Due.STATE);
        DUE.is("riders", new DebtRides().drift(7, 60, 1), Due.STATE);
        DUE.is("one alone", Due.told(ONE).drift(7, 60, 1), 1);
    }

    private static void driftBadAheadOfState() {
        DUE.sentence("35: BAD; STATE (the first that fits)");
        DUE.is("n 0", new DebtRides().drift(7, 0, 0), Due.BAD);
        DUE.is("n 61", new DebtRides().drift(7, 61, 0), Due.BAD);
        DUE.is("what 2", new DebtRides().drift(7, 1, 2), Due.BAD);
    }

    /** Five squires with 9 each who earn nothing. */
    private static DebtRides squires() {
        return Due.told("squire 9 0;".repeat(5));
    }

    private static void driftWraps() {
        DUE.sentence("35: the seed becomes seed times 1103515245 and 12345; bits 16 to 30 of it are got");
        int[] seeds = {Integer.MIN_VALUE, Integer.MIN_VALUE + 1, -1103515245, -65536, -2, -1, 0, 1, 2, 7, 65535, 65536, 123456789,
            1073741824, Integer.MAX_VALUE - 1, Integer.MAX_VALUE};
        for (int seed : seeds) {
            oneDay(seed);
        }
        // Where 12345 just makes the 16th bit turn over, and where it just does not.
        for (int seed = 0; seed < 65536; seed++) {
            int low = seed * 1103515245 & 65535;
            if (low == 65536 - 12345 || low == 65535 - 12345) {
                for (int k = 0; k < 20; k++) {
                    oneDay(seed + 65536 * k);
                }
            }
        }
    }

    private static void oneDay(int seed) {
        // In long nothing is lost: the product stays below 2 to the 62nd.
        long next = Math.floorMod(seed * 1103515245L + 12345L, 1L << 32);
        int got = (int) (next / 65536 % 32768);
        int amount = 1 + got / 64 % 9;
        boolean alike = got % 5 == got / 8 % 5;
        int left = alike ? 0 : Math.max(0, amount - (9 + amount) / 4);
        DUE.is("owed by seed " + seed, squires().drift(seed, 1, 0), left);
        DUE.is("riders by seed " + seed, squires().drift(seed, 1, 1), left == 0 ? 31 : 31 - (1 << got / 8 % 5));
    }

    private static void driftBits() {
        DUE.sentence("35: bits 16 to 30 (not the 31st)");
        DebtRides x = squires();
        for (int n = 1; n <= 60; n += 7) {
            DUE.is("0 and the least int get alike, " + n, x.drift(Integer.MIN_VALUE, n, 0), x.drift(0, n, 0));
            DUE.is("-1 and the greatest get alike, " + n, x.drift(-1, n, 0), x.drift(Integer.MAX_VALUE, n, 0));
        }
    }

    /** By seed -1 the first got is 15929: of five, ONE 4 lends ONE 1 6. */
    private static DebtRides lender(int has, int otherHas, int owes) {
        DebtRides x = Due.told(ONE + "squire 0 0;" + ONE.repeat(3));
        x.alter(4, 1, has);
        x.alter(1, 1, otherHas);
        x.bond(1, 4, owes);
        return x;
    }

    private static void driftIfHeCan() {
        DUE.sentence("35: as by lend(), if he can");
        DUE.is("6 of 6: 1 is paid of 6", lender(6, 0, 0).drift(-1, 1, 0), 5);
        DUE.is("riders", lender(6, 0, 0).drift(-1, 1, 1), 29);
        DUE.is("6 of 5", lender(5, 0, 0).drift(-1, 1, 0), 0);
        DUE.is("riders", lender(5, 0, 0).drift(-1, 1, 1), 31);
        DUE.is("93 and 6: 1 is paid", lender(6, 0, 93).drift(-1, 1, 0), 98);
        DUE.is("94 and 6", lender(6, 0, 94).drift(-1, 1, 0), 94);
        // A day's quarter of 999 is 249: what is left tells whether the 6 came.
        DebtRides full = lender(6, 993, 0);
        full.bond(1, 0, 99);
        full.bond(1, 2, 99);
        full.bond(1, 3, 99);
        DUE.is("999: 249 of 303 are paid", full.drift(-1, 1, 0), 54);
        full.alter(1, 1, 994);
        DUE.is("1000: he can not, 248 of 297 are paid", full.drift(-1, 1, 0), 49);
        // Of three, 15929 gets ONE 2 and ONE 2: nobody lends himself.
        DebtRides three = Due.told("squire 50 0;".repeat(3));
        DUE.is("alike", three.drift(-1, 1, 0), 0);
    }

    private static void driftByItself() {
        DUE.sentence("35: By itself");
        DebtRides x = Due.told("squire 9 1;".repeat(5) + "owes 0 1 9;");
        for (int i = 0; i < 33; i++) {
            x.days(30);
        }
        x.days(9);
        x.bond(0, 1, 9);
        String before = Due.state(x);
        DUE.isNot("60 days from the last on", x.drift(3, 60, 0), Due.BAD);
        DUE.same("nothing has changed", Due.state(x), before);
    }
}
