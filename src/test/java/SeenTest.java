/** Promises 30 to 35: from who rode when, and by a seed. */
public final class SeenTest {
    private static final Due DUE = new Due("SeenTest");
    private static final String TWO = "plain 0 2;plain 0 0;owes 0 1 6;";

    public static void main(String[] args) {
        see();
        forget();
        kindsAndEarns();
        fromNowOn();
        ask();
        drift();
        wrongNumbers();
        DUE.close();
    }

    private static void see() {
        DebtRides x = Due.told(TWO);
        DUE.is("31 days", x.see(31, 0, true), Due.BAD);
        DUE.is("-1 days", x.see(-1, 0, true), Due.BAD);
        DUE.is("no such one", x.see(0, 2, true), Due.BAD);
        for (int i = 1; i <= 6; i++) {
            DUE.is("see", x.see(i == 6 ? 30 : 3, 0, true), i);
        }
        DUE.is("a seventh", x.see(3, 0, true), Due.FULL);
        DUE.is("a bad seventh", x.see(31, 0, true), Due.BAD);
        DUE.is("how many", x.count(0), 6);
        DUE.is("kinds by six", x.kinds(0), 1);
        DUE.is("earns by six", x.earns(0), 1020);
    }

    private static void forget() {
        DebtRides x = Due.told(TWO);
        DUE.is("forget 0 of 0", x.forget(0), 0);
        DUE.is("forget 1 of 0", x.forget(1), Due.BAD);
        x.see(3, 0, true);
        x.see(2, 0, false);
        DUE.is("all is seen", x.earns(0), 4);
        DUE.is("forget 2 of 2", x.forget(2), 2);
        DUE.is("forget 3 of 2", x.forget(3), Due.BAD);
        DUE.is("forget -1", x.forget(-1), Due.BAD);
        DUE.is("forget all but one", x.forget(1), 2);
        DUE.is("the first is left", x.earns(0), 1020);
        DUE.is("how many", x.count(0), 1);
    }

    private static void kindsAndEarns() {
        DebtRides x = Due.told(TWO);
        DUE.is("nothing seen: kinds", x.kinds(0), 15);
        DUE.is("nothing seen: earns", x.earns(0), 1023);
        x.see(3, 0, true);
        DUE.is("kinds", x.kinds(0), 1);
        DUE.is("earns", x.earns(0), 1020);
        x.see(2, 0, false);
        DUE.is("earns 2", x.earns(0), 4);
        DUE.is("as it is fits: kinds of the other", x.kinds(1), 15);
        DUE.is("as it is fits: earns of the other", x.earns(1), 1023);
        x.see(0, 1, true);
        DUE.is("still", x.earns(0), 4);
        x.see(30, 1, false);
        DUE.is("never so: earns", x.earns(0), 0);
        DUE.is("never so: kinds", x.kinds(1), 0);
        DUE.is("he earns as before", x.one(0, 2), 2);
        DUE.is("no such one: kinds", x.kinds(2), Due.BAD);
        DUE.is("no such one: earns", x.earns(2), Due.BAD);
        DebtRides y = Due.told("plain 20 0;plain 0 0;owes 0 1 10;");
        y.see(1, 0, true);
        DUE.is("all but the squire", y.kinds(0), 11);
        y.forget(0);
        y.see(1, 0, false);
        DUE.is("the squire", y.kinds(0), 4);
        y.bond(0, 1, 9);
        DUE.is("squire and miser", y.kinds(0), 12);
        y.dry(9);
        y.see(30, 0, true);
        DUE.is("the squire rides in the end", y.kinds(0), 4);
    }

    private static void fromNowOn() {
        // What is SEEN is told in days from now on, whatever now is.
        DebtRides x = Due.told(TWO);
        x.see(2, 0, true);
        DUE.is("at first", x.earns(0), 1016);
        x.days(1);
        DUE.is("a day later 4 are owed", x.earns(0), 1020);
    }

    private static void ask() {
        DebtRides x = Due.told(TWO);
        DUE.is("behind", x.ask(0, 0), 1);
        DUE.is("left", x.ask(0, 1), 6);
        x.see(1, 0, false);
        DUE.is("0 to 5: behind", x.ask(0, 0), 2);
        DUE.is("0 to 5: left", x.ask(0, 1), 3);
        x.see(2, 0, false);
        DUE.is("0 to 2: behind", x.ask(0, 0), 3);
        DUE.is("0 to 2: left", x.ask(0, 1), 2);
        x.see(3, 0, true);
        DUE.is("2 alone: behind", x.ask(0, 0), Due.NONE);
        DUE.is("2 alone: left", x.ask(0, 1), Due.NONE);
        x.see(4, 0, false);
        DUE.is("none at all", x.ask(0, 0), Due.NONE);
        DUE.is("none at all: left", x.ask(0, 1), Due.NONE);
        x.forget(0);
        DUE.is("who rides", x.ask(1, 0), Due.NONE);
        DUE.is("no such one", x.ask(2, 0), Due.BAD);
        DUE.is("what 2", x.ask(0, 2), Due.BAD);
        x.bond(0, 1, 30);
        x.see(29, 0, false);
        DUE.is("0 or 1", x.earns(0), 3);
        DUE.is("on the last day", x.ask(0, 0), 30);
        DUE.is("one is left", x.ask(0, 1), 1);
        x.bond(0, 1, 31);
        DUE.is("a day too late", x.ask(0, 0), Due.NONE);
    }

    private static void drift() {
        // The first got by seed 1 is 16838: 16838 % 3 = 2 lends 2104 % 3 = 1: 1 + 263 % 9 = 3.
        DebtRides x = Due.told("plain 0 0;squire 0 0;plain 9 0;");
        DUE.is("owed", x.drift(1, 1, 0), 3);
        DUE.is("riders", x.drift(1, 1, 1), 5);
        x.alter(2, 1, 3);
        DUE.is("all he has", x.drift(1, 1, 0), 3);
        x.alter(2, 1, 2);
        DUE.is("he can not", x.drift(1, 1, 0), 0);
        x.alter(2, 1, 9);
        x.alter(1, 0, 0);
        DUE.is("a plain one pays at once", x.drift(1, 1, 0), 0);
        DUE.is("by itself: day", x.rule(1), 0);
        DUE.is("by itself: money", x.one(2, 1), 9);
        DUE.is("n 0", x.drift(1, 0, 0), Due.BAD);
        DUE.is("n 61", x.drift(1, 61, 0), Due.BAD);
        DUE.is("what 2", x.drift(1, 1, 2), Due.BAD);
        DebtRides y = Due.told("squire 9 9;");
        for (int wild : Due.WILD) {
            DUE.is("one alone lends nobody", y.drift(wild, 60, 0), 0);
            DUE.is("one alone rides", y.drift(wild, 60, 1), 1);
        }
        // The second got by seed 1 is 5758: 1 lends 719 % 3 = 2: 1 + 89 % 9 = 9, ahead of the second day.
        DebtRides z = Due.told("plain 0 0;squire 50 0;squire 9 0;");
        DUE.is("first day", z.drift(1, 1, 0), 0);
        DUE.is("two days", z.drift(1, 2, 0), 5);
        DUE.is("two days, riders", z.drift(1, 2, 1), 3);
        // By the third, 10113, ONE 0 is to lend 6 and has nothing; ONE 2 pays 3 of his 14.
        DUE.is("three days", z.drift(1, 3, 0), 2);
    }

    private static void wrongNumbers() {
        DebtRides x = Due.told(TWO);
        x.see(3, 0, true);
        for (int wild : Due.WILD) {
            DUE.is("see n", x.see(wild, 0, true), Due.BAD);
            DUE.is("see p", x.see(0, wild, true), Due.BAD);
            DUE.is("forget", x.forget(wild), Due.BAD);
            DUE.is("kinds", x.kinds(wild), Due.BAD);
            DUE.is("earns", x.earns(wild), Due.BAD);
            DUE.is("ask p", x.ask(wild, 0), Due.BAD);
            DUE.is("ask what", x.ask(0, wild), Due.BAD);
            DUE.is("drift n", x.drift(1, wild, 0), Due.BAD);
            DUE.is("drift what", x.drift(1, 1, wild), Due.BAD);
        }
        DUE.is("how many", x.count(0), 1);
    }
}
