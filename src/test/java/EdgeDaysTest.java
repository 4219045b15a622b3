/** The boundary cases of HEIGHT, WILL, A DAY (Terms) and of promises 10 to 18, each sentence by a method of its own. */
public final class EdgeDaysTest {
    private static final Due DUE = new Due("EdgeDaysTest");
    private static final String ONE = "plain 0 0;";
    private static final String TWO = ONE.repeat(2);
    private static final int PLAIN = 0, WIDOW = 1, SQUIRE = 2, MISER = 3;

    public static void main(String[] args) {
        heights();
        wills();
        aDay();
        changes();
        lend();
        pay();
        days();
        byDays();
        DUE.close();
    }

    private static void heights() {
        rides();
        heightOfOneRidden();
        heightOfPlain();
        heightOfWidow();
        heightOfSquire();
        heightOfMiser();
    }

    private static void wills() {
        willOfPlain();
        willOfWidow();
        willOfSquire();
        willOfMiser();
    }

    private static void aDay() {
        noughtAtLeast();
        earnedAtMost();
        allEarnFirst();
        willIsOfThen();
        byOrder();
        asFarAsThatGoes();
        paidAtMost();
        oneDayMore();
    }

    private static void changes() {
        alterBounds();
        alterKind();
        alterMoney();
        alterEarnings();
        bondBounds();
        bondAmount();
        dryness();
    }

    private static void lend() {
        lendBounds();
        lendAmount();
        lendLessMoney();
        lendMoreThan99();
        lendMoreThan999();
        lendBadAheadOfState();
    }

    private static void pay() {
        payBounds();
        payAmount();
        payOwesLess();
        payLessMoney();
        payAsInADay();
        payBadAheadOfState();
    }

    private static void days() {
        daysBounds();
        noDays();
        daysFull();
        daysBadAheadOfFull();
        whatIsPaid();
    }

    private static void byDays() {
        runsBounds();
        runsNoDay();
        runsTillAllRide();
        runsBeyondTheLastDay();
        aheadBounds();
        aheadNoDay();
        ridesBounds();
        ridesBehind();
    }

    /** A ONE of this kind with so much money who owes so much and is owed so much by another one. */
    private static DebtRides pair(int kind, int money, int owes, int owed) {
        DebtRides x = Due.told(TWO);
        x.alter(0, 0, kind);
        x.alter(0, 1, money);
        x.bond(0, 1, owes);
        x.bond(1, 0, owed);
        return x;
    }

    // ---- who rides, heights, wills

    private static void rides() {
        DUE.sentence("A ONE RIDES, if he OWES nobody anything; else he is RIDDEN");
        DUE.is("owes nothing", pair(PLAIN, 0, 0, 0).rule(3), 3);
        DUE.is("is owed 99", pair(PLAIN, 0, 0, 99).rule(3), 1);
        DUE.is("owes 1", pair(PLAIN, 999, 1, 99).rule(3), 0);
    }

    private static void height(int kind, int... dues) {
        for (int i = 0; i < dues.length; i++) {
            DUE.is("height if owed " + i, pair(kind, 0, 0, i).one(0, 5), dues[i]);
        }
    }

    private static void heightOfOneRidden() {
        DUE.sentence("HEIGHT of a ONE: 0, if he is RIDDEN");
        for (int kind = PLAIN; kind <= MISER; kind++) {
            DUE.is("owes 1, is owed 99", pair(kind, 50, 1, 99).one(0, 5), 0);
        }
    }

    private static void heightOfPlain() {
        DUE.sentence("HEIGHT: plain what all OWE him together");
        height(PLAIN, 0, 1, 2, 3);
        DebtRides x = Due.told(ONE.repeat(5) + "owes 0 4 99;owes 1 4 99;owes 2 4 99;owes 3 4 99;");
        DUE.is("the most", x.one(4, 5), 396);
    }

    private static void heightOfWidow() {
        DUE.sentence("HEIGHT: widow half of that (up)");
        height(WIDOW, 0, 1, 1, 2, 2, 3);
        DUE.is("99", pair(WIDOW, 0, 0, 99).one(0, 5), 50);
    }

    private static void heightOfSquire() {
        DUE.sentence("HEIGHT: squire 1 more than twice that of a plain one");
        height(SQUIRE, 1, 3, 5, 7);
        DUE.is("99", pair(SQUIRE, 0, 0, 99).one(0, 5), 199);
    }

    private static void heightOfMiser() {
        DUE.sentence("HEIGHT: miser 1 less than a widow (0 at least)");
        height(MISER, 0, 0, 0, 1, 1, 2);
        DUE.is("99", pair(MISER, 0, 0, 99).one(0, 5), 49);
    }

    private static void will(int kind, int owes, int money, int due) {
        DUE.is("will with " + money + " who owes " + owes, pair(kind, money, owes, 0).one(0, 6), due);
    }

    private static void willOfPlain() {
        DUE.sentence("WILL: plain all his MONEY");
        will(PLAIN, 0, 0, 0);
        will(PLAIN, 0, 1, 1);
        will(PLAIN, 1, 999, 999);
    }

    private static void willOfWidow() {
        DUE.sentence("WILL: widow half of it (down)");
        will(WIDOW, 1, 0, 0);
        will(WIDOW, 1, 1, 0);
        will(WIDOW, 1, 2, 1);
        will(WIDOW, 1, 3, 1);
        will(WIDOW, 0, 999, 499);
    }

    private static void willOfSquire() {
        DUE.sentence("WILL: squire a quarter of it (down)");
        will(SQUIRE, 1, 3, 0);
        will(SQUIRE, 1, 4, 1);
        will(SQUIRE, 1, 7, 1);
        will(SQUIRE, 1, 8, 2);
        will(SQUIRE, 0, 999, 249);
    }

    private static void willOfMiser() {
        DUE.sentence("WILL: miser as a widow, if he OWES 10 or more in all, else nothing");
        will(MISER, 0, 999, 0);
        will(MISER, 9, 999, 0);
        will(MISER, 10, 999, 499);
        will(MISER, 11, 3, 1);
        will(MISER, 99, 1, 0);
        DebtRides x = Due.told("miser 8 0;" + TWO + "owes 0 1 5;owes 0 2 5;");
        DUE.is("5 and 5", x.one(0, 6), 4);
        x.bond(0, 2, 4);
        DUE.is("5 and 4", x.one(0, 6), 0);
    }

    // ---- a day

    private static void noughtAtLeast() {
        DUE.sentence("A DAY: each EARNS what he does less DRY (0 at least)");
        DebtRides x = Due.told("plain 50 4;");
        int[] earned = {4, 3, 2, 1, 0, 0, 0, 0, 0, 0};
        for (int v = 0; v <= 9; v++) {
            x.alter(0, 1, 50);
            x.dry(v);
            x.days(1);
            DUE.is("dry " + v, x.one(0, 1), 50 + earned[v]);
        }
    }

    private static void earnedAtMost() {
        DUE.sentence("A DAY: EARNS (MONEY 999 at most)");
        DebtRides x = Due.told("plain 0 9;");
        int[] had = {989, 990, 991, 998, 999};
        for (int money : had) {
            x.alter(0, 1, money);
            x.days(1);
            DUE.is("of " + money, x.one(0, 1), Math.min(999, money + 9));
        }
    }

    private static void allEarnFirst() {
        DUE.sentence("A DAY, in this order: each EARNS .. Then each, by order, .. pays");
        // 1 is at 999 by what he earns before 0 pays him, so all that 0 pays is lost on him.
        DebtRides x = Due.told("plain 5 0;plain 0 9;owes 0 1 5;");
        x.alter(1, 1, 990);
        DUE.is("paid", x.days(1), 5);
        DUE.is("1 has", x.one(1, 1), 999);
        // What one earns in a day he can pay in it.
        DebtRides y = Due.told("plain 0 3;plain 0 0;owes 0 1 3;");
        DUE.is("paid", y.days(1), 3);
    }

    private static void willIsOfThen() {
        DUE.sentence("A DAY: has so much to pay as his WILL is then");
        DebtRides x = Due.told("plain 6 0;widow 2 0;plain 0 0;owes 0 1 6;owes 1 2 9;");
        DUE.is("1 pays half of 8, for 0 paid him", x.days(1), 10);
        DUE.is("1 owes then", x.owes(1, 2), 5);
        DebtRides y = Due.told("widow 2 0;plain 6 0;plain 0 0;owes 1 0 6;owes 0 2 9;");
        DUE.is("0 pays half of 2, for 1 pays him later", y.days(1), 7);
        DUE.is("0 owes then", y.owes(0, 2), 8);
        // He owes below 10 behind the first payment, but his will was that of before it.
        DebtRides z = Due.told("miser 18 0;" + TWO + "owes 0 1 4;owes 0 2 6;");
        DUE.is("a miser pays 4 and 5", z.days(1), 9);
    }

    private static void byOrder() {
        DUE.sentence("A DAY: pays those whom he OWES, by order");
        DebtRides x = Due.told(ONE.repeat(2) + "plain 7 0;" + ONE.repeat(2) + "owes 2 4 5;owes 2 1 5;owes 2 3 5;owes 2 0 1;");
        DUE.is("paid", x.days(1), 7);
        int[] due = {0, 0, Due.BAD, 4, 5};
        for (int q = 0; q < 5; q++) {
            DUE.is("owes " + q, x.owes(2, q), due[q]);
        }
    }

    private static void asFarAsThatGoes() {
        DUE.sentence("A DAY: pays .. what he OWES them, as far as that goes");
        int[][] rows = {{0, 5, 0}, {4, 5, 4}, {5, 5, 5}, {6, 5, 5}};
        for (int[] row : rows) {
            DebtRides x = pair(PLAIN, row[0], row[1], 0);
            DUE.is("has " + row[0] + " owes " + row[1], x.days(1), row[2]);
            DUE.is("has then", x.one(0, 1), row[0] - row[2]);
            DUE.is("owes then", x.owes(0, 1), row[1] - row[2]);
            DUE.is("the other has", x.one(1, 1), row[2]);
        }
    }

    private static void paidAtMost() {
        DUE.sentence("A DAY: MONEY of whom he pays is more (999 at most)");
        for (int had = 988; had <= 999; had++) {
            DebtRides x = pair(PLAIN, 10, 10, 0);
            x.alter(1, 1, had);
            DUE.is("paid", x.days(1), 10);
            DUE.is("has 10 more than " + had, x.one(1, 1), Math.min(999, had + 10));
            DUE.is("who paid has", x.one(0, 1), 0);
            DUE.is("and rides", x.rule(3), 3);
        }
    }

    private static void oneDayMore() {
        DUE.sentence("A DAY: DAY is 1 more");
        DebtRides x = Due.told(TWO);
        for (int d = 1; d <= 3; d++) {
            x.days(1);
            DUE.is("day", x.rule(1), d);
        }
        DebtRides nobody = new DebtRides();
        nobody.days(30);
        DUE.is("of nobody", nobody.rule(1), 30);
    }

    // ---- promises 10 to 12

    private static void alterBounds() {
        DUE.sentence("10: alter(p, what 0 to 2, v) of a ONE .. BAD");
        DUE.bounds("p", () -> Due.told(TWO), 0, 1, (x, v) -> x.alter(v, 1, 5));
        DUE.bounds("p of five", () -> Due.told(ONE.repeat(5)), 0, 4, (x, v) -> x.alter(v, 1, 5));
        DUE.bounds("what", () -> Due.told(TWO), 0, 2, (x, v) -> x.alter(0, v, 1));
        DUE.is("nobody", new DebtRides().alter(0, 0, 0), Due.BAD);
    }

    private static void alterKind() {
        DUE.sentence("10: KIND (0 to 3)");
        DUE.bounds("kind", () -> Due.told(TWO), 0, 3, (x, v) -> x.alter(1, 0, v));
    }

    private static void alterMoney() {
        DUE.sentence("10: MONEY (0 to 999)");
        DUE.bounds("money", () -> Due.told(TWO), 0, 999, (x, v) -> x.alter(1, 1, v));
        DebtRides x = Due.told(TWO);
        DUE.is("what it was", x.alter(1, 1, 999), 0);
        DUE.is("what it was", x.alter(1, 1, 0), 999);
        DUE.is("what it is", x.one(1, 1), 0);
    }

    private static void alterEarnings() {
        DUE.sentence("10: what he EARNS (0 to 9)");
        DUE.bounds("earns", () -> Due.told(TWO), 0, 9, (x, v) -> x.alter(1, 2, v));
    }

    private static void bondBounds() {
        DUE.sentence("11: bond(p, q, v) .. BAD (also alike)");
        DUE.bounds("p", () -> Due.told(ONE.repeat(3)), 0, 2, (x, v) -> x.bond(v, v == 1 ? 0 : 1, 5));
        DUE.bounds("q", () -> Due.told(ONE.repeat(3)), 0, 2, (x, v) -> x.bond(v == 1 ? 0 : 1, v, 5));
        DUE.is("alike", Due.told(TWO).bond(1, 1, 5), Due.BAD);
        DUE.is("alike, 0", Due.told(TWO).bond(0, 0, 0), Due.BAD);
    }

    private static void bondAmount() {
        DUE.sentence("11: becomes v (0 to 99)");
        DUE.bounds("v", () -> Due.told(TWO), 0, 99, (x, v) -> x.bond(1, 0, v));
        DebtRides x = Due.told(TWO);
        DUE.is("what it was", x.bond(1, 0, 99), 0);
        DUE.is("what it was", x.bond(1, 0, 0), 99);
        DUE.is("what it is", x.owes(1, 0), 0);
    }

    private static void dryness() {
        DUE.sentence("12: DRY becomes v (0 to 9): what it was. BAD");
        DUE.bounds("v", DebtRides::new, 0, 9, (x, v) -> x.dry(v));
        DebtRides x = new DebtRides();
        DUE.is("what it was", x.dry(9), 0);
        DUE.is("what it was", x.dry(0), 9);
    }

    // ---- promise 13

    private static DebtRides rich() {
        DebtRides x = Due.told(ONE.repeat(3));
        x.alter(0, 1, 500);
        x.alter(1, 1, 500);
        x.alter(2, 1, 500);
        return x;
    }

    private static void lendBounds() {
        DUE.sentence("13: lend(p, q, n) .. BAD (also alike)");
        DUE.bounds("p", EdgeDaysTest::rich, 0, 2, (x, v) -> x.lend(v, v == 1 ? 0 : 1, 5));
        DUE.bounds("q", EdgeDaysTest::rich, 0, 2, (x, v) -> x.lend(v == 1 ? 0 : 1, v, 5));
        DUE.is("alike", rich().lend(1, 1, 5), Due.BAD);
    }

    private static void lendAmount() {
        DUE.sentence("13: so much (1 to 99)");
        DUE.bounds("n", EdgeDaysTest::rich, 1, 99, (x, v) -> x.lend(0, 1, v));
        DebtRides x = rich();
        DUE.is("1", x.lend(0, 1, 1), 1);
        DUE.is("98 more", x.lend(0, 1, 98), 99);
        DUE.is("who lent has", x.one(0, 1), 401);
        DUE.is("the other has", x.one(1, 1), 599);
        DUE.is("the other way is free", x.lend(1, 0, 99), 99);
    }

    private static void lendLessMoney() {
        DUE.sentence("13: STATE: he has less MONEY");
        DebtRides x = rich();
        x.alter(0, 1, 7);
        DUE.is("8 of 7", x.lend(0, 1, 8), Due.STATE);
        DUE.is("7 of 7", x.lend(0, 1, 7), 7);
        DUE.is("has nothing", x.one(0, 1), 0);
        DUE.is("1 of 0", x.lend(0, 1, 1), Due.STATE);
    }

    private static void lendMoreThan99() {
        DUE.sentence("13: STATE: the other one would OWE him more than 99");
        DebtRides x = rich();
        x.bond(1, 0, 90);
        DUE.is("100", x.lend(0, 1, 10), Due.STATE);
        DUE.is("99", x.lend(0, 1, 9), 99);
        DUE.is("1 more", x.lend(0, 1, 1), Due.STATE);
        x.bond(1, 2, 99);
        x.bond(1, 0, 0);
        DUE.is("what he owes another is not counted", x.lend(0, 1, 99), 99);
    }

    private static void lendMoreThan999() {
        DUE.sentence("13: STATE: the other one would .. have more than 999");
        DebtRides x = rich();
        x.alter(1, 1, 990);
        DUE.is("1000", x.lend(0, 1, 10), Due.STATE);
        DUE.is("999", x.lend(0, 1, 9), 9);
        DUE.is("has", x.one(1, 1), 999);
        DUE.is("1 more", x.lend(0, 1, 1), Due.STATE);
    }

    private static void lendBadAheadOfState() {
        DUE.sentence("13: BAD; STATE (the first that fits)");
        DebtRides x = Due.told(TWO);
        DUE.is("0 of nothing", x.lend(0, 1, 0), Due.BAD);
        DUE.is("100 of nothing", x.lend(0, 1, 100), Due.BAD);
        DUE.is("alike, of nothing", x.lend(0, 0, 1), Due.BAD);
        DUE.is("1 of nothing", x.lend(0, 1, 1), Due.STATE);
    }

    // ---- promise 14

    private static DebtRides owing() {
        DebtRides x = rich();
        for (int i = 0; i < 9; i++) {
            x.bond(i / 3, i % 3, 99);
        }
        return x;
    }

    private static void payBounds() {
        DUE.sentence("14: pay(p, q, n) .. BAD (also alike)");
        DUE.bounds("p", EdgeDaysTest::owing, 0, 2, (x, v) -> x.pay(v, v == 1 ? 0 : 1, 5));
        DUE.bounds("q", EdgeDaysTest::owing, 0, 2, (x, v) -> x.pay(v == 1 ? 0 : 1, v, 5));
        DUE.is("alike", owing().pay(1, 1, 5), Due.BAD);
    }

    private static void payAmount() {
        DUE.sentence("14: so much (1 to 99)");
        DUE.bounds("n", EdgeDaysTest::owing, 1, 99, (x, v) -> x.pay(0, 1, v));
        DUE.is("1", owing().pay(0, 1, 1), 98);
        DUE.is("99", owing().pay(0, 1, 99), 0);
    }

    private static void payOwesLess() {
        DUE.sentence("14: STATE: he OWES him less");
        DebtRides x = owing();
        x.bond(0, 1, 7);
        DUE.is("8 of 7", x.pay(0, 1, 8), Due.STATE);
        DUE.is("7 of 7", x.pay(0, 1, 7), 0);
        DUE.is("1 of 0", x.pay(0, 1, 1), Due.STATE);
    }

    private static void payLessMoney() {
        DUE.sentence("14: STATE: he .. has less MONEY");
        DebtRides x = owing();
        x.alter(0, 1, 7);
        DUE.is("8 of 7", x.pay(0, 1, 8), Due.STATE);
        DUE.is("7 of 7", x.pay(0, 1, 7), 92);
        DUE.is("has nothing", x.one(0, 1), 0);
        DUE.is("1 of 0", x.pay(0, 1, 1), Due.STATE);
    }

    private static void payAsInADay() {
        DUE.sentence("14: in the road (as in a DAY)");
        DebtRides x = owing();
        x.alter(1, 1, 997);
        DUE.is("what he owes then", x.pay(0, 1, 3), 96);
        DUE.is("999 at most", x.one(1, 1), 999);
        DUE.is("who paid has 3 less", x.one(0, 1), 497);
        DUE.is("no day has gone", x.rule(1), 0);
        x.alter(0, 0, MISER);
        x.bond(0, 1, 5);
        x.bond(0, 2, 0);
        DUE.is("his will is nothing", x.one(0, 6), 0);
        DUE.is("yet he can", x.pay(0, 1, 5), 0);
    }

    private static void payBadAheadOfState() {
        DUE.sentence("14: BAD; STATE (the first that fits)");
        DebtRides x = Due.told(TWO);
        DUE.is("0 of nothing", x.pay(0, 1, 0), Due.BAD);
        DUE.is("100 of nothing", x.pay(0, 1, 100), Due.BAD);
        DUE.is("alike, of nothing", x.pay(0, 0, 1), Due.BAD);
        DUE.is("1 of nothing", x.pay(0, 1, 1), Due.STATE);
    }

    // ---- promise 15

    private static void daysBounds() {
        DUE.sentence("15: n DAYS (0 to 30) .. BAD");
        DUE.bounds("n", DebtRides::new, 0, 30, (x, v) -> x.days(v));
        DUE.bounds("n", () -> Due.told(TWO), 0, 30, (x, v) -> x.days(v));
    }

    private static void noDays() {
        DUE.sentence("15: n DAYS (0 ..): what is paid in them");
        DebtRides x = Due.told("plain 9 9;plain 0 0;owes 0 1 9;");
        DUE.is("paid", x.days(0), 0);
        DUE.is("day", x.rule(1), 0);
        DUE.is("money", x.one(0, 1), 9);
        DUE.is("owed", x.rule(4), 9);
    }

    private static DebtRides onDay(int day) {
        DebtRides x = Due.told("plain 0 1;plain 0 0;owes 0 1 99;");
        for (int left = day; left > 0; left -= 30) {
            x.days(Math.min(left, 30));
        }
        DUE.is("day", x.rule(1), day);
        return x;
    }

    private static void daysFull() {
        DUE.sentence("15: FULL: DAY would be 1000 or more");
        DUE.is("969 and 30", onDay(969).days(30), 0);
        DUE.is("970 and 30", onDay(970).days(30), Due.FULL);
        DUE.is("998 and 1", onDay(998).days(1), 0);
        DebtRides x = onDay(999);
        DUE.is("999 and 1", x.days(1), Due.FULL);
        DUE.is("999 and 30", x.days(30), Due.FULL);
        DUE.is("999 and 0", x.days(0), 0);
        DUE.is("day", x.rule(1), 999);
        DUE.is("money", x.rule(5), 999);
    }

    private static void daysBadAheadOfFull() {
        DUE.sentence("15: BAD; FULL (the first that fits)");
        DebtRides x = onDay(999);
        DUE.is("31", x.days(31), Due.BAD);
        DUE.is("-1", x.days(-1), Due.BAD);
        DUE.is("the greatest", x.days(Integer.MAX_VALUE), Due.BAD);
    }

    private static void whatIsPaid() {
        DUE.sentence("15: what is paid in them");
        DebtRides x = Due.told("plain 0 1;plain 0 0;owes 0 1 31;");
        DUE.is("30 days", x.days(30), 30);
        DUE.is("the last", x.days(1), 1);
        DUE.is("no more", x.days(30), 0);
        DebtRides y = Due.told("plain 9 0;plain 0 0;owes 0 1 9;owes 1 0 5;");
        DUE.is("what goes to and fro is paid twice", y.days(1), 14);
    }

    // ---- promises 16 to 18

    private static void runsBounds() {
        DUE.sentence("16: runs(n 0 to 60, what) .. BAD");
        DUE.bounds("n", () -> Due.told(TWO), 0, 60, (x, v) -> x.runs(v, 0));
        DUE.bounds("n, what 3", () -> Due.told(TWO), 0, 60, (x, v) -> x.runs(v, 3));
        DUE.bounds("what", () -> Due.told(TWO), 0, 3, (x, v) -> x.runs(1, v));
    }

    private static void runsNoDay() {
        DUE.sentence("16: BY DAYS, n of them (0 ..)");
        DebtRides x = Due.told("plain 9 9;plain 5 0;owes 0 1 9;");
        DUE.is("owed", x.runs(0, 0), 9);
        DUE.is("riders", x.runs(0, 1), 2);
        DUE.is("money", x.runs(0, 2), 14);
        DUE.is("all ride", x.runs(0, 3), Due.NONE);
        DUE.is("all ride behind 1", x.runs(1, 3), 1);
    }

    private static void runsTillAllRide() {
        DUE.sentence("16: behind how many all RIDE first (3: from 0 on; NONE)");
        DebtRides x = Due.told("plain 0 1;plain 0 0;owes 0 1 60;");
        DUE.is("59", x.runs(59, 3), Due.NONE);
        DUE.is("60", x.runs(60, 3), 60);
        DUE.is("the last is paid then", x.runs(60, 0), 0);
        x.bond(0, 1, 61);
        DUE.is("61", x.runs(60, 3), Due.NONE);
        x.bond(0, 1, 1);
        DUE.is("1 of 60", x.runs(60, 3), 1);
        x.bond(0, 1, 0);
        DUE.is("from 0 on", x.runs(60, 3), 0);
        DUE.is("0 of 0", x.runs(0, 3), 0);
        DUE.is("nobody: all ride", new DebtRides().runs(60, 3), 0);
    }

    private static void runsBeyondTheLastDay() {
        DUE.sentence("BY DAYS: as it would be from now on");
        DebtRides x = onDay(999);
        x.alter(0, 1, 0);
        x.bond(0, 1, 60);
        DUE.is("runs", x.runs(60, 3), 60);
        DUE.is("ahead", x.ahead(0, 59, 0), 1);
        DUE.is("rides", x.rides(0), 60);
        DUE.is("nothing has changed", x.owes(0, 1), 60);
        DUE.is("nor has the day", x.rule(1), 999);
    }

    private static void aheadBounds() {
        DUE.sentence("17: ahead(p, n 0 to 60, what) .. BAD");
        DUE.bounds("p", () -> Due.told(TWO), 0, 1, (x, v) -> x.ahead(v, 1, 0));
        DUE.bounds("n", () -> Due.told(TWO), 0, 60, (x, v) -> x.ahead(0, v, 0));
        DUE.bounds("what", () -> Due.told(TWO), 0, 2, (x, v) -> x.ahead(0, 1, v));
        DUE.is("nobody", new DebtRides().ahead(0, 0, 0), Due.BAD);
    }

    private static void aheadNoDay() {
        DUE.sentence("17: BY DAYS, n of them (0 to 60)");
        DebtRides x = Due.told("plain 5 1;squire 0 0;owes 0 1 66;");
        DUE.is("owes now", x.ahead(0, 0, 0), 66);
        DUE.is("money now", x.ahead(0, 0, 1), 5);
        DUE.is("height now", x.ahead(1, 0, 2), 133);
        DUE.is("owes behind 60", x.ahead(0, 60, 0), 1);
        DUE.is("money behind 60", x.ahead(1, 60, 1), 65);
        DUE.is("height behind 60", x.ahead(1, 60, 2), 3);
        DUE.is("height of one ridden", x.ahead(0, 60, 2), 0);
    }

    private static void ridesBounds() {
        DUE.sentence("18: rides(p) .. BAD");
        DUE.bounds("p", () -> Due.told(TWO), 0, 1, (x, v) -> x.rides(v));
        DUE.bounds("p of five", () -> Due.told(ONE.repeat(5)), 0, 4, (x, v) -> x.rides(v));
        DUE.is("nobody", new DebtRides().rides(0), Due.BAD);
    }

    private static void ridesBehind() {
        DUE.sentence("18: behind how many (0 to 60) .. NONE: behind none");
        DebtRides x = Due.told("plain 0 1;plain 0 0;");
        int[][] rows = {{0, 0}, {1, 1}, {59, 59}, {60, 60}, {61, Due.NONE}, {99, Due.NONE}};
        for (int[] row : rows) {
            x.bond(0, 1, row[0]);
            DUE.is("owes " + row[0], x.rides(0), row[1]);
        }
        x.alter(0, 2, 0);
        x.bond(0, 1, 1);
        DUE.is("he earns nothing", x.rides(0), Due.NONE);
    }
}
