/** Promises 10 to 18: what is changed, and days. */
public final class DaysTest {
    private static final Due DUE = new Due("DaysTest");
    private static final String FOUR = "plain 10 3;widow 20 0;squire 40 2;miser 30 5;"
            + "owes 0 1 8;owes 0 2 9;owes 1 2 15;owes 3 0 12;dry 1;";

    public static void main(String[] args) {
        alter();
        bondAndDry();
        lend();
        pay();
        days();
        dayLimit();
        moneyLimit();
        willIsOfThen();
        runs();
        ahead();
        rides();
        wrongNumbers();
        DUE.close();
    }

    private static void alter() {
        DebtRides x = Due.told(FOUR);
        DUE.is("kind", x.alter(1, 0, 3), 1);
        DUE.is("kind then", x.one(1, 0), 3);
        DUE.is("kind 4", x.alter(1, 0, 4), Due.BAD);
        DUE.is("money", x.alter(1, 1, 999), 20);
        DUE.is("money then", x.one(1, 1), 999);
        DUE.is("money 1000", x.alter(1, 1, 1000), Due.BAD);
        DUE.is("money 0", x.alter(1, 1, 0), 999);
        DUE.is("earns", x.alter(1, 2, 9), 0);
        DUE.is("earns then", x.one(1, 2), 9);
        DUE.is("earns 10", x.alter(1, 2, 10), Due.BAD);
        DUE.is("what 3", x.alter(1, 3, 0), Due.BAD);
        DUE.is("below 0", x.alter(1, 1, -1), Due.BAD);
        DUE.is("no such one", x.alter(4, 1, 0), Due.BAD);
        DUE.is("others stay", x.one(0, 1), 10);
        DebtRides y = Due.told("plain 1 2;".repeat(5));
        DUE.is("kind of the fifth", y.alter(4, 0, 3), 0);
        DUE.is("money of the fifth", y.alter(4, 1, 7), 1);
        DUE.is("earns of the fifth", y.alter(4, 2, 8), 2);
        DUE.is("the fifth then", 100 * y.one(4, 0) + 10 * y.one(4, 1) + y.one(4, 2), 378);
    }

    private static void bondAndDry() {
        DebtRides x = Due.told(FOUR);
        DUE.is("bond", x.bond(0, 1, 99), 8);
        DUE.is("bond then", x.owes(0, 1), 99);
        DUE.is("bond the other way", x.owes(1, 0), 0);
        DUE.is("bond 0", x.bond(0, 1, 0), 99);
        DUE.is("bond 100", x.bond(0, 1, 100), Due.BAD);
        DUE.is("bond -1", x.bond(0, 1, -1), Due.BAD);
        DUE.is("bond alike", x.bond(1, 1, 5), Due.BAD);
        DUE.is("bond no such one", x.bond(4, 1, 5), Due.BAD);
        DUE.is("dry", x.dry(9), 1);
        DUE.is("dry then", x.dry(0), 9);
        DUE.is("dry 10", x.dry(10), Due.BAD);
        DUE.is("dry -1", x.dry(-1), Due.BAD);
    }

    private static void lend() {
        DebtRides x = Due.told(FOUR);
        DUE.is("lend", x.lend(2, 0, 5), 14);
        DUE.is("who lends", x.one(2, 1), 35);
        DUE.is("who borrows", x.one(0, 1), 15);
        DUE.is("owes then", x.owes(0, 2), 14);
        DUE.is("all his money", x.lend(2, 3, 35), 35);
        DUE.is("less money", x.lend(2, 3, 1), Due.STATE);
        x.alter(2, 1, 999);
        DUE.is("up to 99", x.lend(2, 3, 64), 99);
        DUE.is("more than 99", x.lend(2, 3, 1), Due.STATE);
        x.alter(1, 1, 990);
        DUE.is("up to 999", x.lend(2, 1, 9), 24);
        DUE.is("more than 999", x.lend(2, 1, 1), Due.STATE);
        DUE.is("alike", x.lend(1, 1, 1), Due.BAD);
        DUE.is("none", x.lend(2, 0, 0), Due.BAD);
        DUE.is("100", x.lend(2, 0, 100), Due.BAD);
        DUE.is("bad ahead of state", x.lend(2, 1, 100), Due.BAD);
        DUE.is("no such one", x.lend(4, 0, 1), Due.BAD);
        DUE.is("no such other one", x.lend(0, 4, 1), Due.BAD);
    }

    private static void pay() {
        DebtRides x = Due.told(FOUR);
        DUE.is("pay", x.pay(1, 2, 11), 4);
        DUE.is("who pays, above his will", x.one(1, 1), 9);
        DUE.is("who is paid", x.one(2, 1), 51);
        DUE.is("owes less", x.pay(1, 2, 5), Due.STATE);
        x.alter(1, 1, 3);
        DUE.is("has less", x.pay(1, 2, 4), Due.STATE);
        x.alter(2, 1, 998);
        DUE.is("999 at most", x.pay(1, 2, 3), 1);
        DUE.is("is 999", x.one(2, 1), 999);
        DUE.is("who paid has nothing", x.one(1, 1), 0);
        DUE.is("all", x.pay(3, 0, 12), 0);
        DUE.is("rides", x.rule(3), 12);
        DUE.is("alike", x.pay(1, 1, 1), Due.BAD);
        DUE.is("none", x.pay(0, 1, 0), Due.BAD);
        DUE.is("100", x.pay(0, 1, 100), Due.BAD);
        DUE.is("no such one", x.pay(4, 1, 1), Due.BAD);
        DUE.is("no such other one", x.pay(0, 4, 1), Due.BAD);
        DUE.is("day", x.rule(1), 0);
    }

    private static void days() {
        DebtRides x = Due.told(FOUR);
        DUE.is("no day", x.days(0), 0);
        DUE.is("day 0", x.rule(1), 0);
        DUE.is("a day", x.days(1), 38);
        int[] money = {12, 14, 59, 22};
        for (int p = 0; p < 4; p++) {
            DUE.is("money of " + p, x.one(p, 1), money[p]);
        }
        DUE.is("0 owes 1", x.owes(0, 1), 0);
        DUE.is("0 owes 2", x.owes(0, 2), 5);
        DUE.is("1 owes 2", x.owes(1, 2), 1);
        DUE.is("3 owes 0", x.owes(3, 0), 0);
        DUE.is("day", x.rule(1), 1);
        DUE.is("two days more", x.days(2), 6);
        DUE.is("day 3", x.rule(1), 3);
        DUE.is("all ride", x.rule(3), 15);
        DUE.is("money", x.rule(5), 121);
        DUE.is("31 days", x.days(31), Due.BAD);
        DUE.is("-1 day", x.days(-1), Due.BAD);
        DUE.is("dry above what is earned", x.dry(9), 1);
        x.days(30);
        DUE.is("nothing is earned", x.rule(5), 121);
        DUE.is("day 33", x.rule(1), 33);
    }

    private static void dayLimit() {
        DebtRides x = Due.told("plain 0 1;");
        for (int i = 0; i < 33; i++) {
            x.days(30);
        }
        DUE.is("day 990", x.rule(1), 990);
        DUE.is("day 1000", x.days(10), Due.FULL);
        DUE.is("bad ahead of full", x.days(31), Due.BAD);
        DUE.is("to day 999", x.days(9), 0);
        DUE.is("day 999", x.rule(1), 999);
        DUE.is("one more", x.days(1), Due.FULL);
        DUE.is("none more", x.days(0), 0);
        DUE.is("by days", x.ahead(0, 60, 1), 999);
    }

    private static void moneyLimit() {
        DebtRides x = Due.told("plain 99 0;squire 0 9;owes 0 1 50;");
        x.alter(1, 1, 995);
        DUE.is("paid in full though 999 is the most", x.days(1), 50);
        DUE.is("who is paid", x.one(1, 1), 999);
        DUE.is("who paid", x.one(0, 1), 49);
        DUE.is("money is lost", x.rule(5), 1048);
    }

    private static void willIsOfThen() {
        // 0 pays 1 first, so that 1's half is of what he has then; 1 pays 0 the debt of lower place last.
        DebtRides x = Due.told("plain 20 0;widow 0 0;miser 40 0;owes 0 1 20;owes 1 2 30;owes 2 0 6;owes 2 1 5;");
        DUE.is("paid", x.days(1), 20 + 10 + 11);
        DUE.is("0 has", x.one(0, 1), 6);
        DUE.is("1 has", x.one(1, 1), 15);
        DUE.is("2 has", x.one(2, 1), 39);
        DebtRides y = Due.told("miser 18 0;plain 0 0;plain 0 0;owes 0 1 6;owes 0 2 6;");
        DUE.is("a miser pays half, by order", y.days(1), 9);
        DUE.is("owes 1 then", y.owes(0, 1), 0);
        DUE.is("owes 2 then", y.owes(0, 2), 3);
        DUE.is("then he owes below 10 and pays nothing", y.days(1), 0);
    }

    private static void runs() {
        DebtRides x = Due.told(FOUR);
        int[][] want = {{44, 4, 100}, {6, 12, 107}, {0, 15, 114}, {0, 15, 121}};
        for (int n = 0; n < 4; n++) {
            for (int w = 0; w < 3; w++) {
                DUE.is("runs " + n + " " + w, x.runs(n, w), want[n][w]);
            }
            DUE.is("runs " + n + " 3", x.runs(n, 3), n < 2 ? Due.NONE : 2);
        }
        DUE.is("60 days", x.runs(60, 2), 100 + 7 * 60);
        DUE.is("61 days", x.runs(61, 0), Due.BAD);
        DUE.is("what 4", x.runs(1, 4), Due.BAD);
        DUE.is("nothing has changed", x.rule(5), 100);
        DUE.is("day", x.rule(1), 0);
    }

    private static void ahead() {
        DebtRides x = Due.told(FOUR);
        int[][] want = {{5, 12, 0}, {1, 14, 0}, {0, 59, 13}, {0, 22, 0}};
        for (int p = 0; p < 4; p++) {
            for (int w = 0; w < 3; w++) {
                DUE.is("ahead " + p + " 1 " + w, x.ahead(p, 1, w), want[p][w]);
            }
        }
        DUE.is("no day", x.ahead(2, 0, 2), 49);
        DUE.is("60 days", x.ahead(3, 60, 1), 22 + 59 * 4);
        DUE.is("61 days", x.ahead(0, 61, 0), Due.BAD);
        DUE.is("what 3", x.ahead(0, 1, 3), Due.BAD);
        DUE.is("no such one", x.ahead(4, 1, 0), Due.BAD);
        DUE.is("nothing has changed", x.rule(4), 44);
    }

    private static void rides() {
        DebtRides x = Due.told(FOUR);
        int[] want = {2, 2, 0, 1};
        for (int p = 0; p < 4; p++) {
            DUE.is("rides " + p, x.rides(p), want[p]);
        }
        DUE.is("no such one", x.rides(4), Due.BAD);
        DebtRides y = Due.told("plain 0 1;plain 0 0;owes 0 1 60;");
        DUE.is("behind 60", y.rides(0), 60);
        DUE.is("all behind 60", y.runs(60, 3), 60);
        DUE.is("all behind 59", y.runs(59, 3), Due.NONE);
        y.bond(0, 1, 61);
        DUE.is("behind none", y.rides(0), Due.NONE);
    }

    private static void wrongNumbers() {
        DebtRides x = Due.told(FOUR);
        String before = Due.state(x);
        for (int wild : Due.WILD) {
            DUE.is("alter p", x.alter(wild, 1, 1), Due.BAD);
            DUE.is("alter what", x.alter(0, wild, 1), Due.BAD);
            DUE.is("alter v", x.alter(0, 1, wild), Due.BAD);
            DUE.is("bond p", x.bond(wild, 1, 1), Due.BAD);
            DUE.is("bond q", x.bond(0, wild, 1), Due.BAD);
            DUE.is("bond v", x.bond(0, 1, wild), Due.BAD);
            DUE.is("dry", x.dry(wild), Due.BAD);
            DUE.is("lend p", x.lend(wild, 1, 1), Due.BAD);
            DUE.is("lend q", x.lend(0, wild, 1), Due.BAD);
            DUE.is("lend n", x.lend(0, 1, wild), Due.BAD);
            DUE.is("pay p", x.pay(wild, 1, 1), Due.BAD);
            DUE.is("pay q", x.pay(0, wild, 1), Due.BAD);
            DUE.is("pay n", x.pay(0, 1, wild), Due.BAD);
            DUE.is("days", x.days(wild), Due.BAD);
            DUE.is("runs n", x.runs(wild, 0), Due.BAD);
            DUE.is("runs what", x.runs(0, wild), Due.BAD);
            DUE.is("ahead p", x.ahead(wild, 0, 0), Due.BAD);
            DUE.is("ahead n", x.ahead(0, wild, 0), Due.BAD);
            DUE.is("ahead what", x.ahead(0, 0, wild), Due.BAD);
            DUE.is("rides", x.rides(wild), Due.BAD);
        }
        DUE.same("state", Due.state(x), before);
    }
}
