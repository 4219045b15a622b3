import java.util.function.Supplier;

/** What is refused changes nothing, nor does what is only asked: a twin who was spared the call answers all the same. */
public final class RefusedTest {
    private static final Due DUE = new Due("RefusedTest");
    private static final int MIN = Integer.MIN_VALUE, MAX = Integer.MAX_VALUE;
    private static final String FOUR = "plain 30 3;widow 40 2;squire 50 1;miser 60 4;"
            + "owes 0 1 60;owes 1 2 90;owes 2 0 90;owes 3 0 75;dry 1;";

    /** One call on an object of which all else is settled. */
    interface Call {
        long of(DebtRides x);
    }

    public static void main(String[] args) {
        DUE.sentence("what is refused changes nothing");
        refusedText();
        refusedPeople();
        refusedChanges();
        refusedDays();
        refusedBest();
        refusedSeen();
        refusedSheets();
        refusedWhenFull();
        refusedWhenThereIsNobody();
        DUE.sentence("(but THE TAPE, as told)");
        refusedTextEmptiesTheTape();
        DUE.sentence("BY DAYS: as it would be (what is only asked changes nothing)");
        askedOfPeople();
        askedAhead();
        askedOfTheRest();
        DUE.close();
    }

    /** People with debts, DAY 1, two SEEN, IMAGE 0, a tape, three SHEETS; fault() is 3, torn() is 2. */
    private static DebtRides rich() {
        DebtRides x = Due.told(FOUR);
        x.keep(0);
        x.days(1);
        x.see(3, 0, true);
        x.see(2, 3, false);
        Due.tell(x, "dry 10;");
        Due.feedAll(x, "miser 5 ");
        laid(x, 0, 0, 0, 1, 1, 1, 2, 2);
        laid(x, 1, 1, 2, 0, 3, 9);
        laid(x, 2, 2, 3, 0, 4, 2, 0, 5, 1);
        x.read(0, 0, 5, 1);
        return x;
    }

    private static void laid(DebtRides x, int k, int lane, int... cells) {
        x.sheet(k, lane, cells.length);
        for (int i = 0; i < cells.length; i++) {
            x.lay(k, i, cells[i]);
        }
    }

    /** Three people, a full tape, six SEEN, both IMAGES, the last DAY. */
    private static DebtRides full() {
        DebtRides x = Due.told("plain 9 1;widow 9 2;miser 9 1;");
        for (int i = 0; i < 33; i++) {
            x.days(30);
        }
        x.days(9);
        x.bond(0, 1, 90);
        x.bond(2, 1, 99);
        x.alter(0, 1, 9);
        x.alter(1, 1, 995);
        x.keep(0);
        x.dry(2);
        x.keep(1);
        for (int i = 0; i < 6; i++) {
            x.see(i, 1, true);
        }
        Due.feedAll(x, "miser 5 1;" + " ".repeat(150));
        laid(x, 0, 0, 0, 1, 1, 1, 2, 2);
        return x;
    }

    private static DebtRides empty() {
        DebtRides x = new DebtRides();
        Due.feedAll(x, "miser 5 ");
        return x;
    }

    /** All that an object answers from here on, to calls that bring every part of it to light. */
    private static String tale(DebtRides x) {
        StringBuilder s = new StringBuilder(Due.state(x));
        for (int k = 0; k < 4; k++) {
            for (int f = 0; f <= 3; f += 3) {
                s.append(" r").append(x.read(k, k % 3, f, 1)).append(' ').append(x.torn());
            }
        }
        s.append(" | ").append(Due.state(x));
        for (int k = 1; k >= 0; k--) {
            s.append(" b").append(x.back(k)).append(' ').append(Due.state(x));
        }
        if (x.count(2) < 160) {
            Due.feedAll(x, "1; ");
        }
        return s.append(" t").append(x.text()).append(' ').append(Due.state(x)).toString();
    }

    private static void refused(Supplier<DebtRides> made, String name, Call call, long due) {
        DebtRides x = made.get();
        DUE.is(name, call.of(x), due);
        DUE.same("behind " + name, tale(x), tale(made.get()));
    }

    private static void refused(String name, Call call, long due) {
        refused(RefusedTest::rich, name, call, due);
    }

    private static void bad(String name, Due.Ask ask, int... numbers) {
        for (int v : numbers) {
            refused(name + " " + v, x -> ask.of(x, v), Due.BAD);
        }
    }

    private static void asked(String name, Due.Ask ask, int lowest, int highest) {
        for (int v = lowest; v <= highest; v++) {
            DebtRides x = rich();
            DUE.isNot(name + " " + v, ask.of(x, v), Due.BAD);
            DUE.same("behind " + name + " " + v, tale(x), tale(rich()));
        }
    }

    private static void refusedText() {
        bad("feed", (x, v) -> x.feed(v), MIN, -1, 128, MAX);
        bad("end", (x, v) -> x.end(v), MIN, -1, 9, 160, MAX);
        bad("rule", (x, v) -> x.rule(v), MIN, -1, 6, MAX);
    }

    private static void refusedPeople() {
        bad("one p", (x, v) -> x.one(v, 0), MIN, -1, 4, MAX);
        bad("one what", (x, v) -> x.one(0, v), MIN, -1, 7, MAX);
        bad("owes p", (x, v) -> x.owes(v, 0), MIN, -1, 0, 4, MAX);
        bad("owes q", (x, v) -> x.owes(0, v), MIN, -1, 0, 4, MAX);
        bad("meet p", (x, v) -> x.meet(v, 0), MIN, -1, 0, 4, MAX);
        bad("meet q", (x, v) -> x.meet(0, v), MIN, -1, 0, 4, MAX);
    }

    private static void refusedChanges() {
        bad("alter p", (x, v) -> x.alter(v, 1, 7), MIN, -1, 4, MAX);
        bad("alter what", (x, v) -> x.alter(0, v, 2), MIN, -1, 3, MAX);
        bad("alter kind", (x, v) -> x.alter(0, 0, v), MIN, -1, 4, MAX);
        bad("alter money", (x, v) -> x.alter(0, 1, v), MIN, -1, 1000, MAX);
        bad("alter earns", (x, v) -> x.alter(0, 2, v), MIN, -1, 10, MAX);
        bad("bond p", (x, v) -> x.bond(v, 1, 7), MIN, -1, 1, 4, MAX);
        bad("bond q", (x, v) -> x.bond(1, v, 7), MIN, -1, 1, 4, MAX);
        bad("bond v", (x, v) -> x.bond(0, 1, v), MIN, -1, 100, MAX);
        bad("dry", (x, v) -> x.dry(v), MIN, -1, 10, MAX);
        bad("lend p", (x, v) -> x.lend(v, 1, 1), MIN, -1, 1, 4, MAX);
        bad("lend q", (x, v) -> x.lend(1, v, 1), MIN, -1, 1, 4, MAX);
        bad("lend n", (x, v) -> x.lend(2, 1, v), MIN, -1, 0, 100, MAX);
        bad("pay p", (x, v) -> x.pay(v, 1, 1), MIN, -1, 1, 4, MAX);
        bad("pay q", (x, v) -> x.pay(1, v, 1), MIN, -1, 1, 4, MAX);
        bad("pay n", (x, v) -> x.pay(1, 2, v), MIN, -1, 0, 100, MAX);
        refused("lend, less money", x -> x.lend(0, 1, 99), Due.STATE);
        refused("pay, owes less", x -> x.pay(2, 1, 1), Due.STATE);
        refused("pay, owes a little less", x -> x.pay(1, 2, x.owes(1, 2) + 1), Due.STATE);
    }

    private static void refusedDays() {
        bad("days", (x, v) -> x.days(v), MIN, -1, 31, MAX);
        bad("runs n", (x, v) -> x.runs(v, 0), MIN, -1, 61, MAX);
        bad("runs what", (x, v) -> x.runs(1, v), MIN, -1, 4, MAX);
        bad("ahead p", (x, v) -> x.ahead(v, 1, 0), MIN, -1, 4, MAX);
        bad("ahead n", (x, v) -> x.ahead(0, v, 0), MIN, -1, 61, MAX);
        bad("ahead what", (x, v) -> x.ahead(0, 1, v), MIN, -1, 3, MAX);
        bad("rides", (x, v) -> x.rides(v), MIN, -1, 4, MAX);
    }

    private static void refusedBest() {
        bad("net", (x, v) -> x.net(v), MIN, -1, 4, MAX);
        bad("ring", (x, v) -> x.ring(v), MIN, -1, 2, 9, 15, MAX);
        bad("give n", (x, v) -> x.give(v, 0), MIN, -1, 0, 100, MAX);
        bad("give what", (x, v) -> x.give(1, v), MIN, -1, 2, MAX);
        bad("forgive", (x, v) -> x.forgive(v), MIN, -1, 2, MAX);
        bad("kind p", (x, v) -> x.kind(v, 0), MIN, -1, 4, MAX);
        bad("kind what", (x, v) -> x.kind(0, v), MIN, -1, 2, MAX);
        bad("late p", (x, v) -> x.late(v, 1), MIN, -1, 4, MAX);
        bad("late n", (x, v) -> x.late(0, v), MIN, -1, 10, MAX);
        bad("train n", (x, v) -> x.train(v, 0), MIN, -1, 61, MAX);
        bad("train what", (x, v) -> x.train(1, v), MIN, -1, 2, MAX);
        bad("luck v", (x, v) -> x.luck(v, 0, 1, 0), MIN, -1, 11, MAX);
        bad("luck p", (x, v) -> x.luck(1, v, 1, 0), MIN, -1, 4, MAX);
        bad("luck n", (x, v) -> x.luck(1, 0, v, 0), MIN, -1, 9, MAX);
        bad("luck what", (x, v) -> x.luck(1, 0, 1, v), MIN, -1, 2, MAX);
        bad("mean v", (x, v) -> x.mean(v, 1, 0), MIN, -1, 11, MAX);
        bad("mean n", (x, v) -> x.mean(1, v, 0), MIN, -1, 9, MAX);
        bad("mean what", (x, v) -> x.mean(1, 1, v), MIN, -1, 2, MAX);
    }

    private static void refusedSeen() {
        bad("see n", (x, v) -> x.see(v, 0, true), MIN, -1, 31, MAX);
        bad("see p", (x, v) -> x.see(1, v, true), MIN, -1, 4, MAX);
        bad("forget", (x, v) -> x.forget(v), MIN, -1, 3, MAX);
        bad("kinds", (x, v) -> x.kinds(v), MIN, -1, 4, MAX);
        bad("earns", (x, v) -> x.earns(v), MIN, -1, 4, MAX);
        bad("ask p", (x, v) -> x.ask(v, 0), MIN, -1, 4, MAX);
        bad("ask what", (x, v) -> x.ask(0, v), MIN, -1, 2, MAX);
        bad("drift n", (x, v) -> x.drift(1, v, 0), MIN, -1, 0, 61, MAX);
        bad("drift what", (x, v) -> x.drift(1, 1, v), MIN, -1, 2, MAX);
    }

    private static void refusedSheets() {
        bad("keep", (x, v) -> x.keep(v), MIN, -1, 2, MAX);
        bad("back", (x, v) -> x.back(v), MIN, -1, 2, MAX);
        refused("back to none", x -> x.back(1), Due.STATE);
        bad("sheet k", (x, v) -> x.sheet(v, 0, 5), MIN, -1, 4, MAX);
        bad("sheet lane", (x, v) -> x.sheet(0, v, 5), MIN, -1, 3, MAX);
        bad("sheet n", (x, v) -> x.sheet(0, 0, v), 41, MAX);
        refused("sheet of -1", x -> x.sheet(0, 0, -1), -14);
        refused("sheet of -1, another lane", x -> x.sheet(1, 2, MIN), -14);
        bad("lay k", (x, v) -> x.lay(v, 0, 5), MIN, -1, 4, MAX);
        refused("lay on nothing", x -> x.lay(3, 0, 5), -11);
        for (int i : new int[] {MIN, -1, 6, 40, MAX}) {
            refused("lay on " + i, x -> x.lay(0, i, 5), -12);
        }
        bad("read k", (x, v) -> x.read(v, 0, 0, 1), MIN, -1, 4, MAX);
        bad("read lane", (x, v) -> x.read(0, v, 0, 1), MIN, -1, 3, MAX);
        bad("read n", (x, v) -> x.read(0, 0, 0, v), MIN, -1, 14, MAX);
        refused("read, the second is refused by pay()", x -> {
            x.lay(2, 4, 1);
            long answer = x.read(2, 2, 0, 2);
            x.lay(2, 4, 0);
            return answer;
        }, -21);
        bad("count", (x, v) -> x.count(v), MIN, -1, 5, MAX);
    }

    private static void refusedWhenFull() {
        refused(RefusedTest::full, "feed a 161st", x -> x.feed('7'), Due.FULL);
        refused(RefusedTest::full, "see a 7th", x -> x.see(0, 0, true), Due.FULL);
        refused(RefusedTest::full, "days beyond the last", x -> x.days(1), Due.FULL);
        refused(RefusedTest::full, "30 days beyond the last", x -> x.days(30), Due.FULL);
        refused(RefusedTest::full, "lend, more than 99", x -> x.lend(1, 0, 10), Due.STATE);
        refused(RefusedTest::full, "lend, more than 999", x -> x.lend(0, 1, 5), Due.STATE);
        refused(RefusedTest::full, "pay, less money", x -> x.pay(0, 1, 10), Due.STATE);
        refused(RefusedTest::full, "end beyond the tape", x -> x.end(161), Due.BAD);
        refused(RefusedTest::full, "forget beyond what is seen", x -> x.forget(7), Due.BAD);
    }

    private static void refusedWhenThereIsNobody() {
        refused(RefusedTest::empty, "drift", x -> x.drift(1, 1, 0), Due.STATE);
        refused(RefusedTest::empty, "ring", x -> x.ring(0), Due.NONE);
        refused(RefusedTest::empty, "give", x -> x.give(1, 0), Due.NONE);
        refused(RefusedTest::empty, "forgive", x -> x.forgive(0), Due.NONE);
        refused(RefusedTest::empty, "train", x -> x.train(1, 0), Due.NONE);
        refused(RefusedTest::empty, "count", x -> x.count(3), Due.NONE);
        refused(RefusedTest::empty, "back", x -> x.back(0), Due.STATE);
        refused(RefusedTest::empty, "see", x -> x.see(0, 0, true), Due.BAD);
        refused(RefusedTest::empty, "alter", x -> x.alter(0, 0, 0), Due.BAD);
        refused(RefusedTest::empty, "forget", x -> x.forget(1), Due.BAD);
    }

    private static void refusedTextEmptiesTheTape() {
        for (String text : new String[] {"dry 10;", "miser 1 1;dry 4;plain 0 10;", "owes 0 1 9;owes 1 0 0;"}) {
            DebtRides x = rich();
            DUE.is("'" + text + "' is refused", Due.tell(x, text) <= -10 ? 1 : 0, 1);
            DebtRides twin = rich();
            twin.end(0);
            DUE.same("behind '" + text + "'", tale(x), tale(twin));
        }
    }

    private static void askedOfPeople() {
        asked("fault", (x, v) -> x.fault(), 0, 0);
        asked("torn", (x, v) -> x.torn(), 0, 0);
        asked("rule", (x, v) -> x.rule(v), 0, 5);
        asked("one", (x, v) -> x.one(v % 4, v / 4), 0, 27);
        asked("owes", (x, v) -> x.owes(v, 0), 1, 3);
        asked("meet", (x, v) -> x.meet(v, 0), 1, 3);
        asked("count", (x, v) -> x.count(v), 0, 4);
        asked("net", (x, v) -> x.net(v), 0, 3);
        asked("least", (x, v) -> x.least(), 0, 0);
        asked("ring", (x, v) -> x.ring(v), 0, 1);
        asked("ring", (x, v) -> x.ring(v), 10, 14);
    }

    private static void askedAhead() {
        for (int n : new int[] {0, 1, 60}) {
            asked("runs " + n, (x, v) -> x.runs(n, v), 0, 3);
            asked("ahead " + n, (x, v) -> x.ahead(1, n, v), 0, 2);
            asked("train " + n, (x, v) -> x.train(n, v), 0, 1);
        }
        asked("rides", (x, v) -> x.rides(v), 0, 3);
        asked("give 1", (x, v) -> x.give(1, v), 0, 1);
        asked("give 99", (x, v) -> x.give(99, v), 0, 1);
        asked("forgive", (x, v) -> x.forgive(v), 0, 1);
        asked("kind", (x, v) -> x.kind(v, 0), 0, 3);
        asked("late 9", (x, v) -> x.late(v, 9), 0, 3);
        asked("luck", (x, v) -> x.luck(5, v, 8, 0), 0, 3);
        asked("mean", (x, v) -> x.mean(5, 8, v), 0, 1);
    }

    private static void askedOfTheRest() {
        asked("kinds", (x, v) -> x.kinds(v), 0, 3);
        asked("earns", (x, v) -> x.earns(v), 0, 3);
        asked("ask", (x, v) -> x.ask(v, 0), 0, 3);
        asked("drift", (x, v) -> x.drift(v, 60, 0), 0, 5);
        asked("no day", (x, v) -> x.days(0), 0, 0);
        asked("end of all", (x, v) -> x.end(8), 0, 0);
        asked("forget nothing", (x, v) -> x.forget(2), 0, 0);
    }
}
