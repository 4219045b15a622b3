/** The boundary cases of NET, RING (Terms) and of promises 19 to 29, each sentence by a method of its own. */
public final class EdgeBestTest {
    private static final Due DUE = new Due("EdgeBestTest");
    private static final String ONE = "plain 0 0;";
    private static final String TWO = ONE.repeat(2);
    private static final String FIVE = ONE.repeat(5);

    public static void main(String[] args) {
        nets();
        rings();
        clearing();
        give();
        forgive();
        kind();
        late();
        train();
        odds();
        DUE.close();
    }

    private static void nets() {
        netBounds();
        netNeverBelowNought();
        leastOfNothing();
        leastAboveNought();
    }

    private static void rings() {
        ringBounds();
        ringOfTwoOrMore();
        ringBeginsWithTheLeast();
        ringOfFewest();
        ringFirstByRow();
        ringAmount();
        ringPlaces();
        noRing();
    }

    private static void clearing() {
        clearNothing();
        clearTillThereIsNone();
        clearAsByRing();
        clearAllAtMost();
    }

    private static void give() {
        giveBounds();
        giveAtMost();
        giveBehindThirtyDays();
        giveMost();
        giveFirst();
        giveNobody();
        giveWhenNobodyRides();
    }

    private static void forgive() {
        forgiveBounds();
        forgiveMost();
        forgiveLeast();
        forgiveBehindThirtyDays();
        forgiveNone();
        forgiveWhenNobodyRides();
    }

    private static void kind() {
        kindBounds();
        kindInSixtyDays();
        kindFirst();
        kindByNone();
    }

    private static void late() {
        lateBounds();
        lateNone();
        lateNoneIfWet();
        lateByNothing();
    }

    private static void train() {
        trainBounds();
        trainFirst();
        trainAllRide();
        trainDays();
    }

    private static void odds() {
        luckBounds();
        luckNoDays();
        luckSureAndNever();
        luckDryIsNine();
        luckEightDays();
        meanBounds();
        meanNoDays();
        meanEightDays();
        lowestTerms();
        noughtByOne();
    }

    /** ONE 0 is plain, earns so much and owes ONE 1, who has nothing and owes nobody, so much. */
    private static DebtRides earner(int earns, int owes) {
        DebtRides x = Due.told(TWO);
        x.alter(0, 2, earns);
        x.bond(0, 1, owes);
        return x;
    }

    // ---- promises 19, 20

    private static void netBounds() {
        DUE.sentence("19: net(p) .. BAD");
        DUE.bounds("p", () -> Due.told(TWO), 0, 1, (x, v) -> x.net(v));
        DUE.bounds("p of five", () -> Due.told(FIVE), 0, 4, (x, v) -> x.net(v));
        DUE.is("nobody", new DebtRides().net(0), Due.BAD);
    }

    private static void netNeverBelowNought() {
        DUE.sentence("19: NET of a ONE, and 1000 (so that it is never below 0)");
        DebtRides x = Due.told(FIVE);
        DUE.is("nothing", x.net(0), 1000);
        for (int p = 1; p < 5; p++) {
            x.bond(p, 0, 99);
        }
        DUE.is("whom all owe 99", x.net(0), 604);
        DUE.is("who owes 99", x.net(4), 1099);
        for (int p = 1; p < 5; p++) {
            x.bond(0, p, 99);
        }
        DUE.is("as much to and fro", x.net(0), 1000);
        for (int p = 1; p < 5; p++) {
            x.bond(p, 0, 0);
        }
        DUE.is("who owes all 99", x.net(0), 1396);
    }

    private static void leastOfNothing() {
        DUE.sentence("20: The least money that clears all (nothing is owed, or all NETS are 0)");
        DUE.is("nobody", new DebtRides().least(), 0);
        DUE.is("nothing is owed", Due.told(FIVE).least(), 0);
        DUE.is("a ring", Due.told(FIVE + "owes 0 4 9;owes 4 2 9;owes 2 0 9;").least(), 0);
    }

    private static void leastAboveNought() {
        DUE.sentence("20: all NETS above 0, summed");
        DUE.is("a chain", Due.told(FIVE + "owes 0 1 9;owes 1 2 9;").least(), 9);
        DUE.is("two who owe", Due.told(FIVE + "owes 0 1 9;owes 3 4 1;").least(), 10);
        DebtRides x = Due.told(FIVE);
        for (int q = 3; q < 5; q++) {
            for (int p = 0; p < 3; p++) {
                x.bond(p, q, 99);
            }
        }
        DUE.is("three owe two", x.least(), 594);
    }

    // ---- promise 21

    private static void ringBounds() {
        DUE.sentence("21: ring(what 0, 1; 10 and i (i 0 to 4)) .. BAD");
        for (String text : new String[] {"", FIVE, TWO + "owes 0 1 1;owes 1 0 1;"}) {
            DUE.bounds("what", () -> Due.told(text), 0, 1, (x, v) -> x.ring(v));
            DUE.bounds("what of a place", () -> Due.told(text), 10, 14, (x, v) -> x.ring(v));
            for (int what = 2; what < 10; what++) {
                DUE.is("what " + what, Due.told(text).ring(what), Due.BAD);
            }
        }
    }

    private static void row(DebtRides x, int... people) {
        DUE.is("how many", x.ring(0), people.length);
        for (int i = 0; i < 5; i++) {
            DUE.is("place " + i, x.ring(10 + i), i < people.length ? people[i] : Due.NONE);
        }
    }

    private static void ringOfTwoOrMore() {
        DUE.sentence("A RING: PEOPLE, two or more, each once, each of whom OWES the next one, the last one the first");
        DUE.is("one debt alone", Due.told(TWO + "owes 0 1 1;").ring(0), Due.NONE);
        row(Due.told(TWO + "owes 0 1 1;owes 1 0 1;"), 0, 1);
        DUE.is("0 is led to it, yet not in it", Due.told(FIVE + "owes 0 1 1;owes 1 2 1;owes 2 1 1;").ring(10), 1);
        row(Due.told(FIVE + "owes 0 1 1;owes 1 2 1;owes 2 3 1;owes 3 4 1;owes 4 0 1;"), 0, 1, 2, 3, 4);
        DUE.is("the last owes not the first", Due.told(FIVE + "owes 0 1 1;owes 1 2 1;owes 0 2 1;").ring(0), Due.NONE);
    }

    private static void ringBeginsWithTheLeast() {
        DUE.sentence("A RING .. begins with the least of them");
        row(Due.told(FIVE + "owes 4 3 1;owes 3 4 1;"), 3, 4);
        row(Due.told(FIVE + "owes 4 3 1;owes 3 2 1;owes 2 4 1;"), 2, 4, 3);
    }

    private static void ringOfFewest() {
        DUE.sentence("21: The RING of fewest PEOPLE");
        row(Due.told(FIVE + "owes 0 1 1;owes 1 2 1;owes 2 0 1;owes 3 4 1;owes 4 3 1;"), 3, 4);
        row(Due.told(FIVE + "owes 0 1 1;owes 1 2 1;owes 2 3 1;owes 3 0 1;owes 2 4 1;owes 4 1 1;"), 1, 2, 4);
    }

    private static void ringFirstByRow() {
        DUE.sentence("21: of several the first by its row");
        row(Due.told(FIVE + "owes 1 2 1;owes 2 1 1;owes 0 4 1;owes 4 0 1;"), 0, 4);
        row(Due.told(FIVE + "owes 0 4 1;owes 4 0 1;owes 0 3 1;owes 3 0 1;"), 0, 3);
        row(Due.told(FIVE + "owes 0 3 1;owes 3 4 1;owes 4 0 1;owes 3 2 1;owes 2 0 1;"), 0, 3, 2);
        row(Due.told(FIVE + "owes 0 4 1;owes 4 1 1;owes 1 0 1;owes 0 2 1;owes 2 3 1;owes 3 0 1;"), 0, 2, 3);
    }

    private static void ringAmount() {
        DUE.sentence("21: how much CLEARS it (1): the least that one of them does");
        DUE.is("1", Due.told(TWO + "owes 0 1 1;owes 1 0 99;").ring(1), 1);
        DUE.is("the last is least", Due.told(TWO + "owes 0 1 9;owes 1 0 8;").ring(1), 8);
        DUE.is("99", Due.told(TWO + "owes 0 1 99;owes 1 0 99;").ring(1), 99);
    }

    private static void ringPlaces() {
        DUE.sentence("21: 10 and i: its i-th ONE (i 0 to 4; NONE: not so many)");
        DebtRides x = Due.told(FIVE + "owes 0 2 1;owes 2 4 1;owes 4 1 1;owes 1 3 1;owes 3 0 1;");
        row(x, 0, 2, 4, 1, 3);
        x.bond(1, 0, 1);
        row(x, 0, 2, 4, 1);
        x.bond(4, 0, 1);
        row(x, 0, 2, 4);
        x.bond(2, 0, 1);
        row(x, 0, 2);
    }

    private static void noRing() {
        DUE.sentence("21: NONE: there is none");
        for (String text : new String[] {"", ONE, FIVE, FIVE + "owes 0 1 9;owes 1 2 9;owes 2 3 9;owes 3 4 9;owes 0 4 9;"}) {
            DebtRides x = Due.told(text);
            DUE.is("how many", x.ring(0), Due.NONE);
            DUE.is("how much", x.ring(1), Due.NONE);
            for (int i = 0; i < 5; i++) {
                DUE.is("place", x.ring(10 + i), Due.NONE);
            }
        }
    }

    // ---- promise 22

    private static void clearNothing() {
        DUE.sentence("22: how much less is OWED in all (there is no RING)");
        DUE.is("nobody", new DebtRides().clear(), 0);
        DebtRides x = Due.told(FIVE + "owes 0 1 9;owes 1 2 9;owes 0 2 9;");
        DUE.is("no ring", x.clear(), 0);
        DUE.is("owed", x.rule(4), 27);
    }

    private static void clearTillThereIsNone() {
        DUE.sentence("22: one behind another .. till there is none");
        DebtRides x = Due.told(FIVE + "owes 0 1 3;owes 1 0 9;owes 3 4 5;owes 4 3 5;owes 0 2 4;owes 2 1 7;");
        DUE.is("3 and 3, 5 and 5, thrice 4", x.clear(), 28);
        DUE.is("none", x.ring(0), Due.NONE);
        DUE.is("1 owes 0", x.owes(1, 0), 2);
        DUE.is("2 owes 1", x.owes(2, 1), 3);
        DUE.is("owed", x.rule(4), 5);
        DUE.is("clear again", x.clear(), 0);
    }

    private static void clearAsByRing() {
        DUE.sentence("22: as by ring()");
        // Both rings need what 0 owes 1: that of fewer people is cleared first and takes it all.
        DebtRides x = Due.told(FIVE + "owes 0 1 5;owes 1 2 5;owes 2 0 5;owes 1 0 5;");
        DUE.is("5 and 5", x.clear(), 10);
        DUE.is("the others stay", x.owes(1, 2) + x.owes(2, 0), 10);
        // Of two rings of three the first by its row, 0 1 2, takes what 0 owes 1.
        DebtRides y = Due.told(FIVE + "owes 0 1 5;owes 1 3 5;owes 3 0 5;owes 1 2 5;owes 2 0 5;");
        DUE.is("thrice 5", y.clear(), 15);
        DUE.is("the other stays", y.owes(1, 3) + y.owes(3, 0), 10);
    }

    private static void clearAllAtMost() {
        DUE.sentence("22: all that can be OWED");
        DebtRides x = Due.told(FIVE);
        for (int i = 0; i < 25; i++) {
            x.bond(i / 5, i % 5, 99);
        }
        DUE.is("clear", x.clear(), 1980);
        DUE.is("all ride", x.rule(3), 31);
        // Each owes two 60 and two 30, and is owed as much: ten rings of two leave 30s that clear one another in longer ones.
        for (int i = 0; i < 25; i++) {
            int step = (i % 5 - i / 5 + 5) % 5;
            x.bond(i / 5, i % 5, step == 1 || step == 2 ? 60 : 30);
        }
        DUE.is("owed", x.rule(4), 900);
        DUE.is("clear by more than ten rings", x.clear(), 900);
    }

    // ---- promise 23

    private static void giveBounds() {
        DUE.sentence("23: give(n 1 to 99, what) .. BAD");
        DUE.bounds("n", () -> earner(0, 99), 1, 99, (x, v) -> x.give(v, 0));
        DUE.bounds("what", () -> earner(0, 99), 0, 1, (x, v) -> x.give(99, v));
        DUE.is("nobody: bad first", new DebtRides().give(0, 0), Due.BAD);
    }

    private static void giveAtMost() {
        DUE.sentence("23: n more MONEY now (999 at most)");
        // Of 999 a squire pays 249 at once, 51 of it to ONE 3, who pays half and stops at 9; of 1098 it would be enough.
        DebtRides x = Due.told("squire 0 0;" + TWO + "miser 0 0;" + ONE + "owes 0 1 99;owes 0 2 99;owes 0 3 99;owes 3 4 34;");
        x.alter(0, 1, 999);
        DUE.is("as it is", x.runs(30, 1), 23);
        DUE.is("he himself", x.give(99, 0), 3);
        DUE.is("how many", x.give(99, 1), 5);
    }

    private static void giveBehindThirtyDays() {
        DUE.sentence("23: so that most RIDE behind 30 DAYS");
        DUE.is("30 days are left", earner(1, 31).give(1, 0), 0);
        DUE.is("31 days are left", earner(1, 32).give(1, 0), Due.NONE);
        DUE.is("30 days as it is", earner(1, 30).give(1, 0), Due.NONE);
    }

    private static void giveMost() {
        DUE.sentence("23: so that most RIDE .. how many (1)");
        DebtRides x = Due.told(FIVE + "owes 0 3 9;owes 1 2 9;owes 2 3 9;");
        DUE.is("who", x.give(9, 0), 1);
        DUE.is("how many", x.give(9, 1), 4);
    }

    private static void giveFirst() {
        DUE.sentence("23: of several the first");
        DebtRides x = Due.told(FIVE + "owes 4 0 9;owes 2 0 9;owes 3 0 9;");
        DUE.is("who", x.give(9, 0), 2);
        DUE.is("how many", x.give(9, 1), 3);
    }

    private static void giveNobody() {
        DUE.sentence("23: more than as it is .. NONE: nobody");
        DUE.is("there is nobody", new DebtRides().give(99, 0), Due.NONE);
        DUE.is("all ride", Due.told(FIVE).give(99, 0), Due.NONE);
        DUE.is("all ride, how many", Due.told(FIVE).give(99, 1), Due.NONE);
        DUE.is("8 of 9", earner(0, 9).give(8, 0), Due.NONE);
        DUE.is("8 of 9, how many", earner(0, 9).give(8, 1), Due.NONE);
        DUE.is("9 of 9", earner(0, 9).give(9, 0), 0);
        DUE.is("99 of 99", earner(0, 99).give(99, 1), 2);
    }

    private static void giveWhenNobodyRides() {
        DUE.sentence("23: more than as it is (nobody RIDES as it is)");
        DebtRides x = Due.told("widow 0 0;widow 0 0;owes 0 1 9;owes 1 0 5;");
        DUE.is("as it is", x.runs(30, 1), 0);
        DUE.is("of 1 a widow pays nothing", x.give(1, 0), Due.NONE);
        DUE.is("of 1 a widow pays nothing, how many", x.give(1, 1), Due.NONE);
        // Of 10 he pays 5, gets 2, pays 3, gets 3 and pays 1: both ride behind 3 days.
        DUE.is("10", x.give(10, 0), 0);
        DUE.is("10, how many", x.give(10, 1), 2);
    }

    // ---- promise 24

    private static void forgiveBounds() {
        DUE.sentence("24: forgive(what) .. BAD");
        DUE.bounds("what", () -> earner(0, 9), 0, 1, (x, v) -> x.forgive(v));
        DUE.is("nobody: bad first", new DebtRides().forgive(2), Due.BAD);
    }

    private static void forgiveMost() {
        DUE.sentence("24: so that most RIDE .. how many (1)");
        DebtRides x = Due.told(TWO + "plain 9 0;" + TWO + "owes 0 1 5;owes 2 3 9;owes 2 4 9;owes 4 3 9;");
        DUE.is("which", x.forgive(0), 23);
        DUE.is("how many", x.forgive(1), 4);
        DUE.is("it is owed yet", x.owes(2, 3), 9);
    }

    private static void forgiveLeast() {
        DUE.sentence("24: 10 times who and whom, of several the least");
        DebtRides x = Due.told(FIVE + "owes 4 3 1;");
        DUE.is("43", x.forgive(0), 43);
        x.bond(4, 3, 0);
        x.bond(3, 4, 9);
        DUE.is("34", x.forgive(0), 34);
        x.bond(1, 0, 99);
        DUE.is("10 and 34", x.forgive(0), 10);
        x.bond(0, 4, 99);
        DUE.is("4, 10 and 34", x.forgive(0), 4);
        x.bond(0, 3, 1);
        DUE.is("0 owes two", x.forgive(0), 10);
    }

    private static void forgiveBehindThirtyDays() {
        DUE.sentence("24: RIDE behind 30 DAYS");
        DebtRides x = Due.told("plain 0 1;" + TWO + "owes 0 1 1;owes 0 2 30;");
        DUE.is("30 are left", x.forgive(0), 1);
        x.bond(0, 2, 31);
        DUE.is("31 would be left", x.forgive(0), 2);
        x.bond(0, 1, 31);
        DUE.is("neither is enough", x.forgive(0), Due.NONE);
        x.bond(0, 1, 15);
        x.bond(0, 2, 15);
        DUE.is("30 as it is", x.forgive(0), Due.NONE);
    }

    private static void forgiveNone() {
        DUE.sentence("24: more than as it is .. NONE: none");
        DUE.is("nobody", new DebtRides().forgive(0), Due.NONE);
        DUE.is("all ride", Due.told(FIVE).forgive(0), Due.NONE);
        DUE.is("all ride, how many", Due.told(FIVE).forgive(1), Due.NONE);
        DebtRides x = Due.told(ONE.repeat(3) + "owes 0 1 1;owes 0 2 1;");
        DUE.is("he owes another", x.forgive(0), Due.NONE);
        DUE.is("he owes another, how many", x.forgive(1), Due.NONE);
    }

    private static void forgiveWhenNobodyRides() {
        DUE.sentence("24: more than as it is (nobody RIDES as it is)");
        DebtRides x = Due.told(TWO + "owes 0 1 9;owes 1 0 9;");
        DUE.is("as it is", x.runs(30, 1), 0);
        DUE.is("which", x.forgive(0), 1);
        DUE.is("how many", x.forgive(1), 1);
        DebtRides y = Due.told(ONE.repeat(3) + "owes 0 1 9;owes 0 2 9;owes 1 0 9;owes 1 2 9;owes 2 0 9;");
        DUE.is("as it is", y.runs(30, 1), 0);
        DUE.is("which", y.forgive(0), 20);
        y.bond(2, 1, 9);
        DUE.is("each owes two", y.forgive(0), Due.NONE);
        DUE.is("each owes two, how many", y.forgive(1), Due.NONE);
    }

    // ---- promise 25

    private static void kindBounds() {
        DUE.sentence("25: kind(p, what) .. BAD");
        DUE.bounds("p", () -> Due.told(TWO), 0, 1, (x, v) -> x.kind(v, 0));
        DUE.bounds("what", () -> Due.told(TWO), 0, 1, (x, v) -> x.kind(0, v));
        DUE.is("nobody", new DebtRides().kind(0, 0), Due.BAD);
    }

    private static void kindInSixtyDays() {
        DUE.sentence("25: RIDES soonest (in 60 DAYS)");
        for (int kind = 0; kind < 4; kind++) {
            DebtRides x = earner(1, 60);
            x.alter(0, 0, kind);
            DUE.is("plain", x.kind(0, 0), 0);
            DUE.is("behind", x.kind(0, 1), 60);
            x.bond(0, 1, 61);
            DUE.is("61", x.kind(0, 0), Due.NONE);
            DUE.is("61, behind", x.kind(0, 1), Due.NONE);
        }
    }

    private static void kindFirst() {
        DUE.sentence("25: of several the first");
        DebtRides x = earner(0, 10);
        x.alter(0, 0, 3);
        x.alter(0, 1, 40);
        DUE.is("all pay 10 of 40 at once", x.kind(0, 0), 0);
        DUE.is("behind", x.kind(0, 1), 1);
        DUE.is("who rides", x.kind(1, 0), 0);
        DUE.is("who rides, behind", x.kind(1, 1), 0);
        // A miser who is paid more pays more and stops sooner: of all kinds but a widow ONE 0 never gets enough of him.
        DebtRides y = Due.told("plain 4 0;miser 8 0;owes 0 1 11;owes 1 0 15;");
        DUE.is("the second", y.kind(0, 0), 1);
        DUE.is("the second, behind", y.kind(0, 1), 4);
        DUE.is("as it is", y.rides(0), Due.NONE);
    }

    private static void kindByNone() {
        DUE.sentence("25: NONE: by none");
        DUE.is("he earns nothing", earner(0, 1).kind(0, 0), Due.NONE);
        DUE.is("he earns nothing, behind", earner(0, 1).kind(0, 1), Due.NONE);
    }

    // ---- promise 26

    private static void lateBounds() {
        DUE.sentence("26: late(p, n 0 to 9) .. BAD");
        DUE.bounds("p", () -> Due.told(TWO), 0, 1, (x, v) -> x.late(v, 1));
        DUE.bounds("n", () -> Due.told(TWO), 0, 9, (x, v) -> x.late(0, v));
        DUE.is("nobody", new DebtRides().late(0, 0), Due.BAD);
    }

    private static void lateNone() {
        DUE.sentence("26: NONE: by one of both he does not in 60 DAYS");
        DUE.is("60 and 7 days", earner(9, 60).late(0, 8), 53);
        DUE.is("61 and 7 days", earner(9, 61).late(0, 8), Due.NONE);
        DUE.is("never and 1 day", earner(9, 9).late(0, 9), Due.NONE);
        DUE.is("neither", earner(1, 61).late(0, 1), Due.NONE);
        DUE.is("neither, alike", earner(1, 61).late(0, 0), Due.NONE);
        DUE.is("both at 60", earner(1, 60).late(0, 0), 0);
    }

    private static void lateNoneIfWet() {
        DUE.sentence("26: NONE: by one of both (by DRY 0, not by n)");
        // Of 40 the miser pays 20, then 10; of 42 he pays 21 and stops at 9.
        DebtRides x = Due.told("miser 40 2;plain 0 0;owes 0 1 30;dry 2;");
        DUE.is("by dry 2", x.rides(0), 2);
        DUE.is("2", x.late(0, 2), Due.NONE);
        DUE.is("9", x.late(0, 9), Due.NONE);
        x.dry(0);
        DUE.is("by dry 0", x.rides(0), Due.NONE);
    }

    private static void lateByNothing() {
        DUE.sentence("26: By how many DAYS later a ONE RIDES if DRY is n than if it is 0");
        for (int n = 0; n <= 9; n++) {
            DUE.is("who rides now", earner(9, 9).late(1, n), 0);
        }
        DebtRides x = earner(9, 9);
        int[] due = {0, 1, 1, 1, 1, 2, 2, 4, 8, Due.NONE};
        for (int n = 0; n <= 9; n++) {
            x.dry(9 - n);
            DUE.is("n " + n, x.late(0, n), due[n]);
        }
    }

    // ---- promise 27

    private static void trainBounds() {
        DUE.sentence("27: train(n 0 to 60, what) .. BAD");
        DUE.bounds("n", () -> Due.told(TWO), 0, 60, (x, v) -> x.train(v, 0));
        DUE.bounds("what", () -> earner(0, 9), 0, 1, (x, v) -> x.train(0, v));
        DUE.is("nobody: bad first", new DebtRides().train(61, 0), Due.BAD);
    }

    private static void trainFirst() {
        DUE.sentence("27: RIDDEN by most (what he OWES in all), of several the first");
        DebtRides x = Due.told(FIVE + "owes 4 0 9;owes 2 0 5;owes 2 1 4;");
        DUE.is("9 and 9", x.train(0, 0), 2);
        DUE.is("how much", x.train(0, 1), 9);
        x.bond(4, 0, 10);
        DUE.is("9 and 10", x.train(0, 0), 4);
        DUE.is("how much", x.train(0, 1), 10);
    }

    private static void trainAllRide() {
        DUE.sentence("27: NONE: all RIDE");
        DUE.is("nobody", new DebtRides().train(0, 0), Due.NONE);
        DUE.is("all ride", Due.told(FIVE).train(0, 0), Due.NONE);
        DUE.is("all ride, how much", Due.told(FIVE).train(60, 1), Due.NONE);
        DUE.is("1 is owed", earner(0, 1).train(60, 1), 1);
    }

    private static void trainDays() {
        DUE.sentence("27: Behind n DAYS (0 to 60)");
        DUE.is("60 of 61", earner(1, 61).train(60, 1), 1);
        DUE.is("60 of 60", earner(1, 60).train(60, 1), Due.NONE);
        DUE.is("59 of 60", earner(1, 60).train(59, 0), 0);
        DUE.is("0 of 60", earner(1, 60).train(0, 1), 60);
    }

    // ---- promises 28, 29

    private static void luck(DebtRides x, int v, int n, long top, long bottom) {
        DUE.is("luck by " + v + ", " + n + " days: 0", x.luck(v, 0, n, 0), top);
        DUE.is("luck by " + v + ", " + n + " days: 1", x.luck(v, 0, n, 1), bottom);
    }

    private static void mean(DebtRides x, int v, int n, long top, long bottom) {
        DUE.is("mean by " + v + ", " + n + " days: 0", x.mean(v, n, 0), top);
        DUE.is("mean by " + v + ", " + n + " days: 1", x.mean(v, n, 1), bottom);
    }

    private static void luckBounds() {
        DUE.sentence("28: luck(v 0 to 10, p, n 0 to 8, what) .. BAD");
        DUE.bounds("v", () -> earner(9, 9), 0, 10, (x, v) -> x.luck(v, 0, 1, 0));
        DUE.bounds("p", () -> earner(9, 9), 0, 1, (x, v) -> x.luck(5, v, 1, 0));
        DUE.bounds("n", () -> earner(9, 9), 0, 8, (x, v) -> x.luck(5, 0, v, 0));
        DUE.bounds("what", () -> earner(9, 9), 0, 1, (x, v) -> x.luck(5, 0, 1, v));
        DUE.is("nobody", new DebtRides().luck(0, 0, 0, 0), Due.BAD);
        DUE.is("nobody, -1", new DebtRides().luck(0, -1, 0, 0), Due.BAD);
    }

    private static void luckNoDays() {
        DUE.sentence("28: Each of n DAYS (0 ..)");
        luck(earner(9, 9), 5, 0, 0, 1);
        luck(earner(9, 0), 5, 0, 1, 1);
    }

    private static void luckSureAndNever() {
        DUE.sentence("28: by v out of ten (0 to 10)");
        luck(earner(9, 9), 0, 1, 1, 1);
        luck(earner(9, 9), 10, 1, 0, 1);
        luck(earner(9, 72), 0, 8, 1, 1);
        luck(earner(9, 73), 0, 8, 0, 1);
        luck(earner(9, 1), 10, 8, 0, 1);
        luck(earner(9, 9), 1, 1, 9, 10);
        luck(earner(9, 9), 9, 1, 1, 10);
    }

    private static void luckDryIsNine() {
        DUE.sentence("28: a dry one (DRY is 9 in it)");
        luck(earner(9, 1), 10, 8, 0, 1);
        DebtRides x = earner(9, 8);
        x.dry(1);
        luck(x, 3, 1, 7, 10);
        x.dry(2);
        luck(x, 3, 1, 0, 1);
        x.dry(9);
        luck(x, 0, 8, 0, 1);
        DUE.is("dry is as it was", x.rule(2), 9);
    }

    private static void luckEightDays() {
        DUE.sentence("28: Each of n DAYS (.. 8) .., by itself");
        luck(earner(9, 72), 9, 8, 1, 100000000);
        luck(earner(9, 72), 1, 8, 43046721, 100000000);
        luck(earner(9, 64), 9, 8, 1, 100000000);
        luck(earner(9, 63), 9, 8, 73, 100000000);
        luck(earner(9, 1), 9, 8, 56953279, 100000000);
        luck(earner(9, 1), 1, 8, 99999999, 100000000);
    }

    private static void meanBounds() {
        DUE.sentence("29: mean(v 0 to 10, n 0 to 8, what) .. BAD");
        DUE.bounds("v", () -> earner(9, 9), 0, 10, (x, v) -> x.mean(v, 1, 0));
        DUE.bounds("n", () -> earner(9, 9), 0, 8, (x, v) -> x.mean(5, v, 0));
        DUE.bounds("what", () -> earner(9, 9), 0, 1, (x, v) -> x.mean(5, 1, v));
        DUE.is("nobody: v 11", new DebtRides().mean(11, 0, 0), Due.BAD);
    }

    private static void meanNoDays() {
        DUE.sentence("29: Likewise (n 0; v 0, 10)");
        mean(earner(9, 99), 5, 0, 99, 1);
        mean(earner(9, 99), 0, 8, 27, 1);
        mean(earner(9, 99), 10, 8, 99, 1);
    }

    private static void meanEightDays() {
        DUE.sentence("29: the mean of all that is OWED behind them");
        mean(earner(9, 72), 5, 8, 36, 1);
        mean(earner(9, 72), 1, 8, 36, 5);
        mean(earner(9, 72), 9, 8, 324, 5);
        // 1 is left if all eight days are dry.
        mean(earner(9, 1), 9, 8, 43046721, 100000000);
        mean(earner(9, 1), 1, 8, 1, 100000000);
    }

    private static void lowestTerms() {
        DUE.sentence("Fractions are in lowest terms, the denominator above 0");
        luck(earner(9, 9), 5, 1, 1, 2);
        luck(earner(9, 9), 2, 1, 4, 5);
        luck(earner(9, 72), 5, 8, 1, 256);
        luck(earner(9, 72), 8, 8, 1, 390625);
        mean(earner(9, 9), 3, 1, 27, 10);
        mean(earner(9, 10), 5, 1, 11, 2);
        mean(earner(9, 10), 2, 1, 14, 5);
    }

    private static void noughtByOne() {
        DUE.sentence("Fractions .. (0 is 0 by 1)");
        luck(earner(9, 9), 10, 8, 0, 1);
        mean(earner(9, 9), 0, 8, 0, 1);
        mean(new DebtRides(), 5, 8, 0, 1);
        mean(Due.told(FIVE), 3, 7, 0, 1);
    }
}
