import java.util.Random;

/** Runs of calls by chance (the seeds are fixed), each answer held against the model's. */
public final class ModelTest {
    private static final Due DUE = new Due("ModelTest");
    private static final String[] KINDS = {"plain", "widow", "squire", "miser"};
    private static final String STRAYS = "abz;;; 0195#P\n~";
    private static final int RUNS = Integer.getInteger("runs", 300);
    private static final int CALLS = 200;

    private final Random chance;
    private final DebtRides x = new DebtRides();
    private final Model m = new Model();
    private final String run;

    private ModelTest(int seed) {
        chance = new Random(seed);
        run = "run " + seed + ": ";
    }

    public static void main(String[] args) {
        for (int seed = 0; seed < RUNS; seed++) {
            new ModelTest(seed).go();
        }
        DUE.close();
    }

    private void go() {
        tell();
        for (int i = 0; i < CALLS; i++) {
            int which = chance.nextInt(100);
            if (which < 30) {
                change();
            } else if (which < 40) {
                paper();
            } else if (which < 41) {
                tell();
            } else {
                ask();
            }
        }
        everything();
    }

    private void is(String call, long got, long want) {
        DUE.is(run + call, got, want);
    }

    /** Mostly within the bounds, now and then just or far outside. */
    private int num(int low, int high) {
        int which = chance.nextInt(40);
        if (which == 0) {
            return high + 1;
        }
        if (which == 1) {
            return low - 1;
        }
        if (which == 2) {
            return Due.WILD[chance.nextInt(Due.WILD.length)];
        }
        return which < 6 ? high : which < 9 ? low : low + chance.nextInt(high - low + 1);
    }

    private int man() {
        return num(0, Math.max(0, m.rule(0) - 1));
    }

    private String line() {
        if (chance.nextInt(12) == 0) {
            return "dry " + chance.nextInt(10) + ";";
        }
        if (chance.nextInt(2) == 0) {
            return KINDS[chance.nextInt(4)] + " " + chance.nextInt(40) + " " + chance.nextInt(10) + ";";
        }
        return "owes " + chance.nextInt(5) + " " + chance.nextInt(5) + " " + (1 + chance.nextInt(chance.nextBoolean() ? 99 : 12)) + ";";
    }

    private String soundText() {
        StringBuilder s = new StringBuilder();
        int people = 1 + chance.nextInt(5);
        for (int p = 0; p < people; p++) {
            s.append(KINDS[chance.nextInt(4)]).append(' ').append(chance.nextInt(40)).append(' ').append(chance.nextInt(10)).append(';');
        }
        if (chance.nextInt(3) == 0) {
            s.append("dry ").append(chance.nextInt(10)).append(';');
        }
        for (int i = 0; i < people * people; i++) {
            if (i / people != i % people && chance.nextInt(3) > 0 && s.length() < 145) {
                s.append("owes ").append(i / people).append(' ').append(i % people).append(' ').append(1 + chance.nextInt(40)).append(';');
            }
        }
        return s.toString();
    }

    private void tell() {
        StringBuilder s = new StringBuilder();
        boolean sound = chance.nextInt(3) > 0;
        if (sound) {
            s.append(soundText());
        } else {
            int lines = chance.nextInt(9);
            for (int i = 0; i < lines; i++) {
                s.append(line());
            }
        }
        if (!sound) {
            int strays = chance.nextInt(4);
            for (int i = 0; i < strays && s.length() > 0; i++) {
                int at = chance.nextInt(s.length());
                if (chance.nextBoolean()) {
                    s.insert(at, STRAYS.charAt(chance.nextInt(STRAYS.length())));
                } else {
                    s.deleteCharAt(at);
                }
            }
        }
        for (int i = 0; i < s.length(); i++) {
            is("feed", x.feed(s.charAt(i)), m.feed(s.charAt(i)));
        }
        is("text " + s, x.text(), m.text());
        is("fault " + s, x.fault(), m.fault);
    }

    private void change() {
        int p = man();
        int q = man();
        int n = num(1, chance.nextBoolean() ? 9 : 99);
        switch (chance.nextInt(14)) {
            case 0 -> {
                int what = num(0, 2);
                int v = num(0, what == 0 ? 3 : what == 1 ? chance.nextInt(4) == 0 ? 999 : 50 : 9);
                is("alter", x.alter(p, what, v), m.alter(p, what, v));
            }
            case 1, 2, 3 -> is("bond", x.bond(p, q, n), m.bond(p, q, n));
            case 4 -> {
                int v = num(0, 9);
                is("dry", x.dry(v), m.dry(v));
            }
            case 5, 6 -> is("lend", x.lend(p, q, n), m.lend(p, q, n));
            case 7 -> is("pay", x.pay(p, q, n), m.pay(p, q, n));
            case 8 -> {
                int d = num(0, chance.nextInt(3) == 0 ? 30 : 2);
                is("days", x.days(d), m.days(d));
            }
            case 9 -> {
                if (chance.nextInt(4) == 0) {
                    is("clear", x.clear(), m.clear());
                }
            }
            case 10 -> {
                int d = num(0, chance.nextInt(3) == 0 ? 30 : 6);
                boolean rides = chance.nextInt(4) == 0 ? chance.nextBoolean()
                        : d >= 0 && d <= 60 && m.rule(0) > 0 && m.ahead(Math.floorMod(p, m.rule(0)), d, 0) == 0;
                is("see", x.see(d, p, rides), m.see(d, p, rides));
            }
            case 11 -> {
                int k = num(0, 4);
                is("forget", x.forget(k), m.forget(k));
            }
            case 12 -> {
                int k = num(0, 1);
                is("keep", x.keep(k), m.keep(k));
            }
            default -> {
                int k = num(0, 1);
                is("back", x.back(k), m.back(k));
            }
        }
    }

    private void paper() {
        int k = num(0, 3);
        int lane = num(0, 2);
        int n = num(0, 40);
        is("sheet", x.sheet(k, lane, n), m.sheet(k, lane, n));
        for (int i = 0; i < 40; i += 3) {
            lay(k, i, num(0, 2));
            lay(k, i + 1, num(0, 2));
            lay(k, i + 2, num(1, 3) + (chance.nextInt(10) == 0 ? 256 : 0));
        }
        for (int i = 0; i < 8; i++) {
            int asked = chance.nextInt(8) == 0 ? num(0, 2) : lane;
            int f = chance.nextInt(4) == 0 ? num(0, 40) : 3 * chance.nextInt(3);
            int many = num(0, chance.nextInt(3) == 0 ? 13 : 2);
            is("read", x.read(k, asked, f, many), m.read(k, asked, f, many));
            is("torn", x.torn(), m.torn);
        }
        is("owed", x.rule(4), m.rule(4));
    }

    private void lay(int k, int i, int v) {
        is("lay", x.lay(k, i, v), m.lay(k, i, v));
    }

    private void ask() {
        int p = man();
        int q = man();
        int n = num(0, chance.nextInt(3) == 0 ? 60 : 8);
        int what = num(0, 1);
        switch (chance.nextInt(16)) {
            case 0 -> is("meet", x.meet(p, q), m.meet(p, q));
            case 1 -> {
                int w = num(0, 3);
                is("runs", x.runs(n, w), m.runs(n, w));
            }
            case 2 -> {
                int w = num(0, 2);
                is("ahead", x.ahead(p, n, w), m.ahead(p, n, w));
            }
            case 3 -> is("rides", x.rides(p), m.rides(p));
            case 4 -> is("least", x.least(), m.least());
            case 5 -> {
                int w = chance.nextBoolean() ? num(0, 1) : num(10, 14);
                is("ring", x.ring(w), m.ring(w));
            }
            case 6 -> {
                int g = num(1, 99);
                is("give", x.give(g, what), m.give(g, what));
            }
            case 7 -> is("forgive", x.forgive(what), m.forgive(what));
            case 8 -> is("kind", x.kind(p, what), m.kind(p, what));
            case 9 -> {
                int d = num(0, 9);
                is("late", x.late(p, d), m.late(p, d));
            }
            case 10 -> is("train", x.train(n, what), m.train(n, what));
            case 11 -> {
                int v = num(0, 10);
                int d = num(0, chance.nextInt(20) == 0 ? 8 : 4);
                is("luck", x.luck(v, p, d, what), m.luck(v, p, d, what));
                is("mean", x.mean(v, d, what), m.mean(v, d, what));
            }
            case 12 -> is("kinds", x.kinds(p), m.kinds(p));
            case 13 -> is("earns", x.earns(p), m.earns(p));
            case 14 -> {
                if (chance.nextInt(4) == 0) {
                    is("ask", x.ask(p, what), m.ask(p, what));
                }
            }
            default -> {
                int seed = chance.nextInt();
                is("drift", x.drift(seed, n, what), m.drift(seed, n, what));
            }
        }
        if (chance.nextInt(10) == 0) {
            everything();
        }
    }

    private void everything() {
        for (int w = -1; w < 8; w++) {
            is("rule " + w, x.rule(w), m.rule(w));
            is("count " + w, x.count(w), m.count(w));
            for (int p = -1; p < 6; p++) {
                is("one " + p + " " + w, x.one(p, w), m.one(p, w));
            }
        }
        for (int p = -1; p < 6; p++) {
            is("net " + p, x.net(p), m.net(p));
            for (int q = -1; q < 6; q++) {
                is("owes " + p + " " + q, x.owes(p, q), m.owes(p, q));
                is("meet " + p + " " + q, x.meet(p, q), m.meet(p, q));
            }
        }
        is("fault", x.fault(), m.fault);
        is("torn", x.torn(), m.torn);
    }
}
