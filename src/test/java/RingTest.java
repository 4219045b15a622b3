/** Promises 19 to 22: nets and rings. */
public final class RingTest {
    private static final Due DUE = new Due("RingTest");
    private static final String FIVE = "plain 0 0;".repeat(5);

    public static void main(String[] args) {
        nets();
        fewestPeople();
        firstByRow();
        ringOfFive();
        ringsOfOne();
        clearing();
        none();
        wrongNumbers();
        DUE.close();
    }

    private static void nets() {
        DebtRides x = Due.told(FIVE + "owes 0 1 8;owes 0 2 9;owes 1 2 15;owes 3 0 12;");
        int[] want = {1005, 1007, 976, 1012, 1000};
        for (int p = 0; p < 5; p++) {
            DUE.is("net " + p, x.net(p), want[p]);
        }
        DUE.is("least", x.least(), 24);
        DUE.is("net 5", x.net(5), Due.BAD);
        for (int p = 1; p < 5; p++) {
            x.bond(0, p, 99);
            x.bond(p, 0, 0);
        }
        DUE.is("the most", x.net(0), 1396);
    }

    private static void fewestPeople() {
        DebtRides x = Due.told(FIVE + "owes 0 1 5;owes 1 2 4;owes 2 0 3;owes 3 4 7;owes 4 3 9;");
        DUE.is("how many", x.ring(0), 2);
        DUE.is("how much", x.ring(1), 7);
        int[] row = {3, 4, Due.NONE, Due.NONE, Due.NONE};
        for (int i = 0; i < 5; i++) {
            DUE.is("ring one " + i, x.ring(10 + i), row[i]);
        }
        DUE.is("clear", x.clear(), 14 + 9);
        DUE.is("0 owes 1", x.owes(0, 1), 2);
        DUE.is("1 owes 2", x.owes(1, 2), 1);
        DUE.is("2 owes 0", x.owes(2, 0), 0);
        DUE.is("3 owes 4", x.owes(3, 4), 0);
        DUE.is("4 owes 3", x.owes(4, 3), 2);
        DUE.is("no ring more", x.ring(0), Due.NONE);
        DUE.is("nothing to clear", x.clear(), 0);
    }

    private static void firstByRow() {
        DebtRides x = Due.told(FIVE + "owes 1 2 1;owes 2 1 1;owes 0 3 2;owes 3 0 2;");
        DUE.is("first one", x.ring(10), 0);
        DUE.is("second one", x.ring(11), 3);
        DebtRides y = Due.told(FIVE + "owes 0 3 9;owes 3 2 9;owes 2 0 9;owes 2 4 9;owes 4 3 9;owes 0 1 9;owes 1 4 9;");
        DUE.is("three", y.ring(0), 3);
        DUE.is("0", y.ring(10), 0);
        DUE.is("then 3", y.ring(11), 3);
        DUE.is("then 2", y.ring(12), 2);
        DUE.is("no more", y.ring(13), Due.NONE);
    }

    private static void ringOfFive() {
        DebtRides x = Due.told(FIVE + "owes 0 4 50;owes 4 3 40;owes 3 2 30;owes 2 1 20;owes 1 0 10;");
        DUE.is("five", x.ring(0), 5);
        DUE.is("how much", x.ring(1), 10);
        int[] row = {0, 4, 3, 2, 1};
        for (int i = 0; i < 5; i++) {
            DUE.is("ring one " + i, x.ring(10 + i), row[i]);
        }
        DUE.is("nothing has changed", x.rule(4), 150);
        DUE.is("clear", x.clear(), 50);
        DUE.is("rest", x.rule(4), 100);
        DUE.is("0 owes 4", x.owes(0, 4), 40);
        DUE.is("1 rides", x.rule(3), 2);
    }

    private static void clearing() {
        // Two rings share 0 and 1's debt: the one of two people is cleared first and leaves the other but 3.
        DebtRides x = Due.told(FIVE + "owes 0 1 9;owes 1 0 6;owes 1 2 8;owes 2 0 7;");
        DUE.is("clear", x.clear(), 12 + 9);
        DUE.is("0 owes 1", x.owes(0, 1), 0);
        DUE.is("1 owes 0", x.owes(1, 0), 0);
        DUE.is("1 owes 2", x.owes(1, 2), 5);
        DUE.is("2 owes 0", x.owes(2, 0), 4);
        DebtRides y = Due.told(FIVE);
        for (int p = 0; p < 5; p++) {
            for (int q = 0; q < 5; q++) {
                y.bond(p, q, p == q ? 0 : 99);
            }
        }
        DUE.is("all that is owed", y.rule(4), 1980);
        DUE.is("clear all", y.clear(), 1980);
        DUE.is("all ride", y.rule(3), 31);
        DUE.is("money is as it was", y.rule(5), 0);
    }

    private static void ringsOfOne() {
        DebtRides x = Due.told(FIVE + "owes 3 1 1;owes 1 4 1;owes 4 3 1;");
        DUE.is("three", x.ring(0), 3);
        DUE.is("of 1", x.ring(1), 1);
        int[] row = {1, 4, 3, Due.NONE, Due.NONE};
        for (int i = 0; i < 5; i++) {
            DUE.is("ring one " + i, x.ring(10 + i), row[i]);
        }
        DUE.is("clear", x.clear(), 3);
    }

    private static void none() {
        DebtRides x = Due.told(FIVE + "owes 0 1 9;owes 1 2 8;owes 0 2 7;");
        DUE.is("no ring: how many", x.ring(0), Due.NONE);
        DUE.is("no ring: how much", x.ring(1), Due.NONE);
        DUE.is("no ring: one", x.ring(10), Due.NONE);
        DUE.is("no ring: bad first", x.ring(2), Due.BAD);
        DUE.is("no ring: clear", x.clear(), 0);
        DUE.is("as it was", x.rule(4), 24);
    }

    private static void wrongNumbers() {
        DebtRides x = Due.told(FIVE + "owes 0 1 9;owes 1 0 8;");
        DUE.is("ring 2", x.ring(2), Due.BAD);
        DUE.is("ring 9", x.ring(9), Due.BAD);
        DUE.is("ring 14", x.ring(14), Due.NONE);
        DUE.is("ring 15", x.ring(15), Due.BAD);
        for (int wild : Due.WILD) {
            DUE.is("ring wild", x.ring(wild), Due.BAD);
            DUE.is("net wild", x.net(wild), Due.BAD);
        }
    }
}
