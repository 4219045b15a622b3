import java.util.function.Supplier;

/** Counts answers that are not the ones that are due; a test ends with close(). */
final class Due {
    static final int BAD = -1, STATE = -2, FULL = -3, NONE = -4;
    static final int[] WILD = {Integer.MIN_VALUE, Integer.MIN_VALUE + 1, -1000, -41, -1, Integer.MAX_VALUE - 1, Integer.MAX_VALUE};

    private final String test;
    private String sentence = "";
    private int sentences;
    private int asked;
    private int wrong;

    Due(String test) {
        this.test = test;
    }

    /** What comes behind this tests this sentence of the document. */
    void sentence(String words) {
        sentence = "[" + words + "] ";
        sentences++;
    }

    void is(String call, long got, long want) {
        asked++;
        if (got != want) {
            wrong++;
            if (wrong <= 50) {
                System.out.println(test + ": " + sentence + call + " answered " + got + ", due is " + want);
            }
        }
    }

    void isNot(String call, long got, long unwanted) {
        asked++;
        if (got == unwanted) {
            wrong++;
            if (wrong <= 50) {
                System.out.println(test + ": " + sentence + call + " answered " + got + ", due is another answer");
            }
        }
    }

    void same(String call, String got, String want) {
        asked++;
        if (!got.equals(want)) {
            wrong++;
            if (wrong <= 50) {
                System.out.println(test + ": " + sentence + call + ":\n  is     " + got + "\n  due is " + want);
            }
        }
    }

    void close() {
        String told = sentences == 0 ? "" : " to " + sentences + " sentences";
        System.out.println(test + ": " + asked + " answers" + told + ", " + wrong + " not as due");
        if (wrong != 0) {
            System.exit(1);
        }
    }

    /** A call of which all is sound but perhaps one number. */
    interface Ask {
        long of(DebtRides x, int v);
    }

    /** The least and the greatest that a number may be are taken, all beyond is BAD. */
    void bounds(String number, Supplier<DebtRides> fresh, int lowest, int highest, Ask ask) {
        isNot(number + " " + lowest, ask.of(fresh.get(), lowest), BAD);
        isNot(number + " " + highest, ask.of(fresh.get(), highest), BAD);
        is(number + " " + (lowest - 1), ask.of(fresh.get(), lowest - 1), BAD);
        is(number + " " + (highest + 1), ask.of(fresh.get(), highest + 1), BAD);
        for (int wild : WILD) {
            is(number + " " + wild, ask.of(fresh.get(), wild), BAD);
        }
    }

    static void feedAll(DebtRides x, String text) {
        for (int i = 0; i < text.length(); i++) {
            x.feed(text.charAt(i));
        }
    }

    /** What text() answers to this, fed behind an empty tape. */
    static int tell(DebtRides x, String text) {
        x.end(0);
        feedAll(x, text);
        return x.text();
    }

    static DebtRides told(String text) {
        DebtRides x = new DebtRides();
        int lines = tell(x, text);
        if (lines < 0) {
            throw new IllegalStateException("a test's own text is not taken: " + text + " " + lines);
        }
        return x;
    }

    /** All that can be asked of an object without changing it, but for sheets' cells. */
    static String state(DebtRides x) {
        StringBuilder s = new StringBuilder();
        for (int w = 0; w < 6; w++) {
            s.append(x.rule(w)).append(' ');
        }
        int people = x.rule(0);
        for (int p = 0; p < people; p++) {
            s.append("| ");
            for (int w = 0; w < 3; w++) {
                s.append(x.one(p, w)).append(' ');
            }
            for (int q = 0; q < people; q++) {
                s.append(p == q ? "-" : "" + x.owes(p, q)).append(' ');
            }
            s.append(x.kinds(p)).append(' ').append(x.earns(p)).append(' ');
        }
        s.append("| ");
        for (int w = 0; w < 5; w++) {
            s.append(x.count(w)).append(' ');
        }
        return s.append(x.fault()).append(' ').append(x.torn()).toString();
    }
}
