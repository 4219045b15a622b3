/** Promises 23 to 29: what is best, and dry days by odds. */
public final class BestTest {
    private static final Due DUE = new Due("BestTest");
    private static final String THREE = "plain 0 0;".repeat(3);

    public static void main(String[] args) {
        give();
        forgive();
        kind();
        late();
        train();
        luck();
        mean();
        fivePeople();
        wrongNumbers();
        DUE.close();
    }

    private static void give() {
        DebtRides x = Due.told(THREE + "owes 0 1 5;owes 1 2 9;");
        DUE.is("too little", x.give(4, 0), Due.NONE);
        DUE.is("too little, how many", x.give(4, 1), Due.NONE);
        DUE.is("of several the first", x.give(9, 0), 0);
        DUE.is("how many", x.give(9, 1), 2);
        x.bond(0, 1, 60);
        x.alter(0, 0, 1);
        DUE.is("a widow hands on 8 of 9", x.give(9, 0), 1);
        DUE.is("how many", x.give(9, 1), 2);
        x.bond(0, 1, 9);
        x.alter(0, 0, 0);
        DUE.is("both are helped", x.give(9, 0), 0);
        DUE.is("all three", x.give(9, 1), 3);
        x.alter(0, 2, 1);
        DUE.is("who rides by himself", x.give(9, 1), Due.NONE);
        DUE.is("nothing has changed", x.rule(5), 0);
        DUE.is("99", x.give(99, 0), Due.NONE);
        DUE.is("0", x.give(0, 0), Due.BAD);
        DUE.is("100", x.give(100, 0), Due.BAD);
        DUE.is("what 2", x.give(9, 2), Due.BAD);
        // Within 30 days, not more: 31 days are needed as it is, 30 with 1 more.
        DebtRides y = Due.told("plain 0 1;plain 0 0;owes 0 1 31;");
        DUE.is("30 days", y.give(1, 0), 0);
        DUE.is("30 days, how many", y.give(1, 1), 2);
        y.bond(0, 1, 32);
        DUE.is("31 days", y.give(1, 0), Due.NONE);
    }

    private static void forgive() {
        DebtRides x = Due.told(THREE + "owes 0 1 5;owes 1 2 9;");
        DUE.is("the least", x.forgive(0), 1);
        DUE.is("how many", x.forgive(1), 2);
        x.bond(0, 2, 1);
        DUE.is("0 owes two", x.forgive(0), 12);
        x.bond(1, 0, 1);
        DUE.is("none is enough", x.forgive(0), Due.NONE);
        DUE.is("none, how many", x.forgive(1), Due.NONE);
        DUE.is("nothing has changed", x.rule(4), 16);
        DUE.is("what 2", x.forgive(2), Due.BAD);
        DUE.is("what -1", x.forgive(-1), Due.BAD);
        DebtRides y = Due.told("plain 0 0;plain 4 0;plain 0 0;owes 0 2 1;owes 1 2 5;owes 2 0 5;owes 2 1 5;");
        DUE.is("as it is", y.runs(30, 1), 1);
        DUE.is("forgiven", y.forgive(0), 20);
        DUE.is("forgiven, how many", y.forgive(1), 2);
    }

    private static void kind() {
        DebtRides x = Due.told("miser 20 0;plain 0 0;owes 0 1 9;");
        DUE.is("first of two", x.kind(0, 0), 0);
        DUE.is("behind", x.kind(0, 1), 1);
        DUE.is("he stays a miser", x.one(0, 0), 3);
        DUE.is("he never rides", x.rides(0), Due.NONE);
        x.alter(0, 1, 8);
        DUE.is("by none", x.kind(0, 0), Due.NONE);
        DUE.is("by none, behind", x.kind(0, 1), Due.NONE);
        DUE.is("who rides", x.kind(1, 0), 0);
        DUE.is("who rides, behind", x.kind(1, 1), 0);
        DUE.is("no such one", x.kind(2, 0), Due.BAD);
        DUE.is("what 2", x.kind(0, 2), Due.BAD);
        DebtRides y = Due.told("squire 0 1;plain 0 0;owes 0 1 60;");
        DUE.is("behind 60", y.kind(0, 1), 60);
        y.bond(0, 1, 61);
        DUE.is("behind 61", y.kind(0, 1), Due.NONE);
        // A miser who is paid too soon pays a little, owes less than 10 and stops: here a widow rides sooner.
        DebtRides z = Due.told("plain 1 4;miser 6 1;miser 20 4;plain 27 5;owes 1 2 16;owes 2 0 15;owes 2 1 8;owes 3 2 16;");
        z.alter(1, 0, 0);
        int plain = z.rides(1);
        z.alter(1, 0, 1);
        int widow = z.rides(1);
        DUE.is("a widow is sooner", widow < plain || plain == Due.NONE ? 1 : 0, 1);
        DUE.is("the widow", z.kind(1, 0), 1);
        DUE.is("the widow, behind", z.kind(1, 1), widow);
    }

    private static void late() {
        DebtRides x = Due.told("plain 0 9;plain 0 0;owes 0 1 27;dry 5;");
        DUE.is("dry 0", x.late(0, 0), 0);
        DUE.is("dry 6", x.late(0, 6), 6);
        DUE.is("dry 8", x.late(0, 8), 24);
        DUE.is("dry 9", x.late(0, 9), Due.NONE);
        DUE.is("dry is as it was", x.rule(2), 5);
        DUE.is("who rides", x.late(1, 9), 0);
        DUE.is("dry 10", x.late(0, 10), Due.BAD);
        DUE.is("no such one", x.late(2, 0), Due.BAD);
        x.alter(0, 2, 0);
        DUE.is("he never rides", x.late(0, 0), Due.NONE);
        // By a miser who stops when he owes less than 10, a dry year may even make one ride sooner: 5 days, then 4.
        DebtRides y = Due.told("miser 28 0;widow 29 8;widow 1 2;miser 16 5;owes 0 3 6;owes 1 3 25;owes 2 1 24;owes 3 2 28;");
        DUE.is("dry 0", y.rides(2), 5);
        DUE.is("sooner", y.late(2, 2), -1);
    }

    private static void train() {
        DebtRides x = Due.told("plain 10 3;widow 20 0;squire 40 2;miser 30 5;"
                + "owes 0 1 8;owes 0 2 9;owes 1 2 15;owes 3 0 12;dry 1;");
        DUE.is("now", x.train(0, 0), 0);
        DUE.is("now, how much", x.train(0, 1), 17);
        DUE.is("behind 1", x.train(1, 1), 5);
        DUE.is("behind 2", x.train(2, 0), Due.NONE);
        DUE.is("behind 2, how much", x.train(2, 1), Due.NONE);
        x.bond(0, 1, 6);
        DUE.is("of several the first", x.train(0, 0), 0);
        x.bond(0, 1, 5);
        DUE.is("the second", x.train(0, 0), 1);
        DUE.is("60", x.train(60, 0), Due.NONE);
        DUE.is("61", x.train(61, 0), Due.BAD);
        DUE.is("what 2", x.train(0, 2), Due.BAD);
        DUE.is("day", x.rule(1), 0);
    }

    private static void fraction(String call, long top, long bottom, long wantTop, long wantBottom) {
        DUE.is(call + ": 0", top, wantTop);
        DUE.is(call + ": 1", bottom, wantBottom);
    }

    private static void luck(DebtRides x, int v, int p, int n, long top, long bottom) {
        fraction("luck " + v + " " + p + " " + n, x.luck(v, p, n, 0), x.luck(v, p, n, 1), top, bottom);
    }

    private static void mean(DebtRides x, int v, int n, long top, long bottom) {
        fraction("mean " + v + " " + n, x.mean(v, n, 0), x.mean(v, n, 1), top, bottom);
    }

    private static void luck() {
        DebtRides x = Due.told("plain 0 9;plain 0 0;owes 0 1 9;");
        luck(x, 3, 0, 0, 0, 1);
        luck(x, 3, 1, 0, 1, 1);
        luck(x, 3, 1, 8, 1, 1);
        luck(x, 3, 0, 1, 7, 10);
        luck(x, 3, 0, 2, 91, 100);
        luck(x, 5, 0, 8, 255, 256);
        luck(x, 3, 0, 8, 99993439, 100000000);
        luck(x, 0, 0, 1, 1, 1);
        luck(x, 0, 0, 8, 1, 1);
        luck(x, 10, 0, 8, 0, 1);
        x.dry(4);
        luck(x, 3, 0, 1, 0, 1);
        luck(x, 3, 0, 2, 49, 100);
        DUE.is("day", x.rule(1), 0);
        DUE.is("dry", x.rule(2), 4);
        DUE.is("v 11", x.luck(11, 0, 1, 0), Due.BAD);
        DUE.is("n 9", x.luck(1, 0, 9, 0), Due.BAD);
        DUE.is("what 2", x.luck(1, 0, 1, 2), Due.BAD);
        DUE.is("no such one", x.luck(1, 2, 1, 0), Due.BAD);
    }

    private static void mean() {
        DebtRides x = Due.told("plain 0 9;plain 0 0;owes 0 1 9;");
        mean(x, 3, 0, 9, 1);
        mean(x, 3, 1, 27, 10);
        mean(x, 3, 2, 81, 100);
        mean(x, 5, 1, 9, 2);
        mean(x, 0, 8, 0, 1);
        mean(x, 10, 8, 9, 1);
        x.dry(4);
        mean(x, 3, 1, 11, 2);
        DUE.is("v 11", x.mean(11, 1, 0), Due.BAD);
        DUE.is("n 9", x.mean(1, 9, 0), Due.BAD);
        DUE.is("what 2", x.mean(1, 1, 2), Due.BAD);
        DebtRides y = Due.told("plain 0 0;".repeat(5));
        for (int i = 0; i < 25; i++) {
            y.bond(i / 5, i % 5, 99);
        }
        mean(y, 7, 8, 1980, 1);
    }

    private static void fivePeople() {
        // Each but the last owes 1, and the last has what two of them need.
        DebtRides x = Due.told("plain 0 0;".repeat(4) + "plain 99 0;owes 0 1 1;owes 1 2 1;owes 2 3 1;owes 3 4 1;owes 4 3 1;");
        DUE.is("as it is", x.runs(30, 1), 24);
        DUE.is("give", x.give(1, 0), 0);
        DUE.is("give, how many", x.give(1, 1), 5);
        DUE.is("forgive", x.forgive(0), 1);
        DUE.is("forgive, how many", x.forgive(1), 3);
        DUE.is("train", x.train(30, 0), 0);
        DUE.is("train, how much", x.train(30, 1), 1);
        DUE.is("kind", x.kind(4, 1), 1);
        luck(x, 1, 4, 8, 1, 1);
        mean(x, 1, 8, 3, 1);
        DebtRides y = Due.told("plain 0 9;".repeat(5) + "owes 4 0 9;owes 4 1 9;owes 4 2 9;owes 4 3 9;");
        DUE.is("who rides last", y.rides(4), 4);
        DUE.is("forgive none", y.forgive(0), Due.NONE);
        luck(y, 1, 4, 4, 6561, 10000);
        luck(y, 9, 4, 4, 1, 10000);
        mean(y, 1, 1, 279, 10);
    }

    private static void wrongNumbers() {
        DebtRides x = Due.told(THREE + "owes 0 1 5;owes 1 2 9;");
        for (int wild : Due.WILD) {
            DUE.is("give n", x.give(wild, 0), Due.BAD);
            DUE.is("give what", x.give(1, wild), Due.BAD);
            DUE.is("forgive", x.forgive(wild), Due.BAD);
            DUE.is("kind p", x.kind(wild, 0), Due.BAD);
            DUE.is("kind what", x.kind(0, wild), Due.BAD);
            DUE.is("late p", x.late(wild, 0), Due.BAD);
            DUE.is("late n", x.late(0, wild), Due.BAD);
            DUE.is("train n", x.train(wild, 0), Due.BAD);
            DUE.is("train what", x.train(0, wild), Due.BAD);
            DUE.is("luck v", x.luck(wild, 0, 0, 0), Due.BAD);
            DUE.is("luck p", x.luck(0, wild, 0, 0), Due.BAD);
            DUE.is("luck n", x.luck(0, 0, wild, 0), Due.BAD);
            DUE.is("luck what", x.luck(0, 0, 0, wild), Due.BAD);
            DUE.is("mean v", x.mean(wild, 0, 0), Due.BAD);
            DUE.is("mean n", x.mean(0, wild, 0), Due.BAD);
            DUE.is("mean what", x.mean(0, 0, wild), Due.BAD);
        }
    }
}
