/** The boundary cases of SHEETS (Terms) and of promises 36 to 42, each sentence by a method of its own. */
public final class EdgeSheetTest {
    private static final Due DUE = new Due("EdgeSheetTest");
    private static final String TWO = "plain 0 0;".repeat(2);
    private static final int BYTES = 0, SHORTS = 1, INTS = 2;

    public static void main(String[] args) {
        images();
        sheets();
        laying();
        reading();
        refusing();
        tearing();
        counting();
        DUE.close();
    }

    private static void images() {
        keepBounds();
        whetherThereWasOne();
        whatAnImageIs();
        whatWasSeen();
        imagesByThemselves();
        backBounds();
        backNone();
        backBadAheadOfState();
        backAgain();
    }

    private static void sheets() {
        sheetBounds();
        sheetSizes();
        sheetBelowNought();
        sheetBadAheadOfSize();
        sheetOfNoughts();
    }

    private static void laying() {
        layBounds();
        layNull();
        layIndex();
        layLowestBits();
    }

    private static void reading() {
        readBounds();
        readNone();
        readThirteen();
        readFromCell();
        readOneBehindAnother();
        readWholeAhead();
        readNull();
        readCast();
    }

    private static void refusing() {
        refusedTheIth();
        refusedInWhicheverWay();
        refusedThenNoneCame();
        theFirstMet();
    }

    private static void tearing() {
        tornAtFirst();
        tornLatest();
        tornOfWhatCameToAnEnd();
    }

    private static void counting() {
        countBounds();
        countSeen();
        countImages();
        countBytes();
        countCells();
        countPairs();
    }

    /** ONE 0 has so much and owes ONE 1 so much; SHEET 0 has so many CELLS of 0, 1, 1 by turns. */
    private static DebtRides payer(int has, int owes, int lane, int cells) {
        DebtRides x = Due.told(TWO);
        x.alter(0, 1, has);
        x.bond(0, 1, owes);
        x.sheet(0, lane, cells);
        for (int i = 0; i < cells; i++) {
            x.lay(0, i, i % 3 == 0 ? 0 : 1);
        }
        return x;
    }

    private static void layRow(DebtRides x, int from, int... cells) {
        for (int i = 0; i < cells.length; i++) {
            x.lay(0, from + i, cells[i]);
        }
    }

    // ---- promises 36, 37

    private static void keepBounds() {
        DUE.sentence("36: IMAGE k (0, 1) .. BAD");
        DUE.bounds("k", () -> Due.told(TWO), 0, 1, (x, v) -> x.keep(v));
    }

    private static void whetherThereWasOne() {
        DUE.sentence("36: whether there was one (1, 0)");
        DebtRides x = new DebtRides();
        DUE.is("first", x.keep(1), 0);
        DUE.is("the other's first", x.keep(0), 0);
        DUE.is("again", x.keep(1), 1);
        DUE.is("the other's again", x.keep(0), 1);
        x.text();
        DUE.is("behind a text", x.keep(1), 0);
    }

    private static void whatAnImageIs() {
        DUE.sentence("36: PEOPLE, what they OWE, DAY, DRY, what was SEEN (and no more)");
        DebtRides x = Due.told("plain 5 1;widow 7 2;owes 0 1 9;dry 3;");
        x.days(4);
        x.see(1, 0, true);
        x.keep(0);
        String kept = Due.state(x);
        x.alter(0, 0, 3);
        x.alter(0, 1, 500);
        x.alter(1, 2, 9);
        x.bond(0, 1, 1);
        x.bond(1, 0, 1);
        x.dry(0);
        x.days(2);
        x.see(2, 1, false);
        DUE.is("day", x.back(0), 4);
        DUE.same("all is as it was", Due.state(x), kept);
        Due.feedAll(x, "dry");
        x.sheet(0, BYTES, 9);
        x.read(1, BYTES, 0, 1);
        DUE.is("back", x.back(0), 4);
        DUE.is("the tape stays", x.count(2), 3);
        DUE.is("sheets stay", x.count(3), 9);
        DUE.is("torn stays", x.torn(), 1);
    }

    private static void whatWasSeen() {
        DUE.sentence("36: what was SEEN");
        DebtRides x = Due.told("plain 0 2;plain 0 0;owes 0 1 6;");
        for (int i = 0; i < 6; i++) {
            x.see(3, 0, true);
        }
        x.keep(0);
        int[][] rows = {{2, 0, 1}, {3, 1, 1}, {3, 0, 0}};
        for (int[] row : rows) {
            x.forget(0);
            for (int i = 0; i < 6; i++) {
                x.see(row[0], row[1], row[2] == 1);
            }
            x.back(0);
            DUE.is("all six again", x.count(0), 6);
            DUE.is("as they were", x.earns(0), 1020);
        }
        x.forget(0);
        x.keep(1);
        x.see(0, 0, true);
        x.back(1);
        DUE.is("none", x.count(0), 0);
        DUE.is("all fits", x.earns(0), 1023);
    }

    private static void imagesByThemselves() {
        DUE.sentence("36: IMAGE k (each for itself)");
        DebtRides x = Due.told(TWO);
        x.dry(1);
        x.keep(0);
        x.dry(2);
        x.keep(1);
        x.dry(3);
        x.back(0);
        DUE.is("0", x.rule(2), 1);
        x.back(1);
        DUE.is("1", x.rule(2), 2);
        x.keep(0);
        x.dry(4);
        x.back(0);
        DUE.is("0, kept anew", x.rule(2), 2);
    }

    private static void backBounds() {
        DUE.sentence("37: back(k) .. BAD");
        DUE.bounds("k", () -> {
            DebtRides x = Due.told(TWO);
            x.keep(0);
            x.keep(1);
            return x;
        }, 0, 1, (x, v) -> x.back(v));
    }

    private static void backNone() {
        DUE.sentence("37: STATE: there is none");
        DebtRides x = Due.told(TWO);
        DUE.is("0", x.back(0), Due.STATE);
        DUE.is("1", x.back(1), Due.STATE);
        x.keep(1);
        DUE.is("0, when 1 is kept", x.back(0), Due.STATE);
        DUE.is("1, when 1 is kept", x.back(1), 0);
        DUE.is("a text that is refused", Due.tell(x, "#"), -10);
        DUE.is("1 is there", x.back(1), 0);
        DUE.is("a text that is taken", Due.tell(x, TWO), 2);
        DUE.is("1 is gone", x.back(1), Due.STATE);
    }

    private static void backBadAheadOfState() {
        DUE.sentence("37: BAD; STATE (the first that fits)");
        DUE.is("2", new DebtRides().back(2), Due.BAD);
        DUE.is("-1", new DebtRides().back(-1), Due.BAD);
    }

    private static void backAgain() {
        DUE.sentence("37: All is as IMAGE k: DAY");
        DebtRides x = Due.told("plain 0 1;");
        x.days(30);
        x.keep(0);
        for (int i = 0; i < 3; i++) {
            x.days(30);
            x.alter(0, 1, 999);
            DUE.is("day", x.back(0), 30);
            DUE.is("money", x.one(0, 1), 30);
            DUE.is("it is kept", x.count(1), 1);
        }
    }

    // ---- promise 38

    private static void sheetBounds() {
        DUE.sentence("38: sheet(k 0 to 3, lane 0 to 2, n) .. BAD");
        DUE.bounds("k", DebtRides::new, 0, 3, (x, v) -> x.sheet(v, BYTES, 1));
        DUE.bounds("lane", DebtRides::new, 0, 2, (x, v) -> x.sheet(0, v, 1));
    }

    private static void sheetSizes() {
        DUE.sentence("38: BAD: also n above 40");
        for (int lane = BYTES; lane <= INTS; lane++) {
            DebtRides x = new DebtRides();
            DUE.is("0", x.sheet(0, lane, 0), 1);
            DUE.is("none", x.count(3), 0);
            DUE.is("40", x.sheet(0, lane, 40), 1);
            DUE.is("the last", x.lay(0, 39, 1), 1);
            DUE.is("41", x.sheet(0, lane, 41), Due.BAD);
            DUE.is("the greatest", x.sheet(0, lane, Integer.MAX_VALUE), Due.BAD);
            DUE.is("as before", x.count(3), 40);
        }
        DebtRides y = new DebtRides();
        DUE.is("41 of nothing", y.sheet(0, BYTES, 41), Due.BAD);
        DUE.is("nothing still", y.count(3), Due.NONE);
    }

    private static void sheetBelowNought() {
        DUE.sentence("38: -10 - 4 (FAULT 4 SIZE (below 0))");
        for (int lane = BYTES; lane <= INTS; lane++) {
            DebtRides x = new DebtRides();
            DUE.is("-1", x.sheet(0, lane, -1), -14);
            DUE.is("the least", x.sheet(0, lane, Integer.MIN_VALUE), -14);
            DUE.is("nothing still", x.count(3), Due.NONE);
            x.sheet(0, lane, 3);
            DUE.is("-1", x.sheet(0, lane, -1), -14);
            DUE.is("as before", x.count(3), 3);
            DUE.is("torn is not asked of it", x.torn(), 0);
        }
    }

    private static void sheetBadAheadOfSize() {
        DUE.sentence("38: BAD; -10 - 4 (the first that fits)");
        DUE.is("k 4", new DebtRides().sheet(4, BYTES, -1), Due.BAD);
        DUE.is("k -1", new DebtRides().sheet(-1, BYTES, -1), Due.BAD);
        DUE.is("lane 3", new DebtRides().sheet(0, 3, -1), Due.BAD);
        DUE.is("lane -1", new DebtRides().sheet(0, -1, -1), Due.BAD);
    }

    private static void sheetOfNoughts() {
        DUE.sentence("38: a new row of CELLS 0");
        DebtRides x = payer(9, 9, INTS, 3);
        DUE.is("as it was laid", x.read(0, INTS, 0, 1), 1);
        x.sheet(0, INTS, 3);
        DUE.is("0 pays 0 nothing", x.read(0, INTS, 0, 1), -20);
        layRow(x, 1, 1, 1);
        DUE.is("its first is 0", x.read(0, INTS, 0, 1), 1);
        x.sheet(0, BYTES, 3);
        DUE.is("of another lane", x.read(0, INTS, 0, 1), 0);
        DUE.is("cast", x.torn(), 3);
    }

    // ---- promise 39

    private static void layBounds() {
        DUE.sentence("39: BAD: k");
        DUE.bounds("k", () -> {
            DebtRides x = new DebtRides();
            x.sheet(0, BYTES, 1);
            x.sheet(3, BYTES, 1);
            return x;
        }, 0, 3, (x, v) -> x.lay(v, 0, 1));
    }

    private static void layNull() {
        DUE.sentence("39: -10 less the FAULT: NULL");
        DebtRides x = new DebtRides();
        x.sheet(1, BYTES, 9);
        for (int k = 0; k < 4; k++) {
            DUE.is("cell 0 of " + k, x.lay(k, 0, 1), k == 1 ? 1 : -11);
            DUE.is("cell -1 of " + k, x.lay(k, -1, 1), k == 1 ? -12 : -11);
        }
        DUE.is("torn is not asked of it", x.torn(), 0);
    }

    private static void layIndex() {
        DUE.sentence("39: -10 less the FAULT: INDEX");
        for (int lane = BYTES; lane <= INTS; lane++) {
            DebtRides x = new DebtRides();
            x.sheet(2, lane, 40);
            DUE.is("0", x.lay(2, 0, 1), 1);
            DUE.is("39", x.lay(2, 39, 1), 1);
            DUE.is("40", x.lay(2, 40, 1), -12);
            DUE.is("-1", x.lay(2, -1, 1), -12);
            DUE.is("the least", x.lay(2, Integer.MIN_VALUE, 1), -12);
            DUE.is("the greatest", x.lay(2, Integer.MAX_VALUE, 1), -12);
            x.sheet(2, lane, 1);
            DUE.is("0 of 1", x.lay(2, 0, 1), 1);
            DUE.is("1 of 1", x.lay(2, 1, 1), -12);
            x.sheet(2, lane, 0);
            DUE.is("0 of 0", x.lay(2, 0, 1), -12);
        }
    }

    /** Whether ONE 0, told by v, pays ONE 1 a 1. */
    private static void isNought(int lane, int v, boolean due) {
        DebtRides x = payer(9, 9, lane, 3);
        DUE.is("lay " + v, x.lay(0, 0, v), 1);
        DUE.is("read of lane " + lane, x.read(0, lane, 0, 1), due ? 1 : -20);
    }

    private static void layLowestBits() {
        DUE.sentence("39: CELL i of a SHEET becomes v (its lowest bits)");
        isNought(BYTES, 0x100, true);
        isNought(BYTES, 0x80, false);
        isNought(BYTES, -256, true);
        isNought(BYTES, Integer.MIN_VALUE, true);
        isNought(SHORTS, 0x100, false);
        isNought(SHORTS, 0x10000, true);
        isNought(SHORTS, 0x8000, false);
        isNought(SHORTS, -65536, true);
        isNought(INTS, 0x10000, false);
        isNought(INTS, Integer.MIN_VALUE, false);
        isNought(INTS, 0, true);
        DebtRides x = payer(99, 99, BYTES, 3);
        x.lay(0, 2, 0x100 + 99);
        DUE.is("99", x.read(0, BYTES, 0, 1), 1);
        DUE.is("all is paid", x.owes(0, 1), 0);
        DebtRides y = payer(99, 99, BYTES, 3);
        y.lay(0, 2, 255);
        DUE.is("255 is -1 in a byte", y.read(0, BYTES, 0, 1), -20);
    }

    // ---- promise 40: what is read

    private static void readBounds() {
        DUE.sentence("40: BAD: k, lane, n");
        DUE.bounds("k", () -> payer(99, 99, BYTES, 9), 0, 3, (x, v) -> x.read(v, BYTES, 0, 1));
        DUE.bounds("lane", () -> payer(99, 99, BYTES, 9), 0, 2, (x, v) -> x.read(0, v, 0, 1));
        DUE.bounds("n", () -> payer(99, 99, BYTES, 9), 0, 13, (x, v) -> x.read(0, BYTES, 0, v));
        DUE.is("k 4, of nothing", new DebtRides().read(4, BYTES, 0, 0), Due.BAD);
    }

    private static void readNone() {
        DUE.sentence("40: n (0 ..) times");
        DebtRides x = payer(9, 9, BYTES, 3);
        DUE.is("0", x.read(0, BYTES, 0, 0), 0);
        DUE.is("nothing is paid", x.owes(0, 1), 9);
        DUE.is("torn", x.torn(), 0);
        DUE.is("0 behind the last", x.read(0, BYTES, 3, 0), 0);
        DUE.is("torn", x.torn(), 0);
    }

    private static void readThirteen() {
        DUE.sentence("40: n (.. 13) times, three CELLS each");
        DebtRides x = payer(99, 99, BYTES, 39);
        DUE.is("13 of 39 cells", x.read(0, BYTES, 0, 13), 13);
        DUE.is("torn", x.torn(), 0);
        DUE.is("13 are paid", x.owes(0, 1), 86);
        x.sheet(0, BYTES, 38);
        for (int i = 0; i < 38; i++) {
            x.lay(0, i, i % 3 == 0 ? 0 : 1);
        }
        DUE.is("13 of 38 cells", x.read(0, BYTES, 0, 13), 12);
        DUE.is("torn", x.torn(), 2);
        DUE.is("12 are paid", x.owes(0, 1), 74);
    }

    private static void readFromCell() {
        DUE.sentence("40: from CELL f on (INDEX)");
        DebtRides x = payer(99, 99, SHORTS, 6);
        int[][] rows = {{0, 1, 0}, {3, 1, 0}, {4, 0, 2}, {5, 0, 2}, {6, 0, 2}, {7, 0, 2}, {-1, 0, 2}, {-3, 0, 2},
            {Integer.MIN_VALUE, 0, 2}, {Integer.MAX_VALUE, 0, 2}, {Integer.MAX_VALUE - 2, 0, 2}};
        int left = 99;
        for (int[] row : rows) {
            DUE.is("from " + row[0], x.read(0, SHORTS, row[0], 1), row[1]);
            DUE.is("torn from " + row[0], x.torn(), row[2]);
            left -= row[1];
            DUE.is("owes", x.owes(0, 1), left);
        }
        DUE.is("two from -3 on: the second is not met", x.read(0, SHORTS, -3, 2), 0);
        DUE.is("13 from the least on", x.read(0, SHORTS, Integer.MIN_VALUE, 13), 0);
        DUE.is("13 from the greatest on", x.read(0, SHORTS, Integer.MAX_VALUE, 13), 0);
        DUE.is("owes", x.owes(0, 1), left);
        x.sheet(0, SHORTS, 0);
        DUE.is("of no cells", x.read(0, SHORTS, 0, 1), 0);
        DUE.is("torn", x.torn(), 2);
    }

    private static void readOneBehindAnother() {
        DUE.sentence("40: one behind another as by pay()");
        DebtRides x = payer(1, 2, INTS, 9);
        x.bond(1, 0, 1);
        layRow(x, 3, 1, 0, 1);
        DUE.is("0 pays with what 1 paid him", x.read(0, INTS, 0, 3), 3);
        DUE.is("all ride", x.rule(3), 3);
        DebtRides y = payer(9, 9, INTS, 3);
        y.alter(1, 1, 999);
        DUE.is("999 at most", y.read(0, INTS, 0, 1), 1);
        DUE.is("who is paid", y.one(1, 1), 999);
        DUE.is("who paid", y.one(0, 1), 8);
    }

    private static void readWholeAhead() {
        DUE.sentence("40: What the machine refuses: those that were whole ahead came");
        for (int cells = 3; cells <= 8; cells++) {
            DebtRides x = payer(99, 99, INTS, cells);
            DUE.is("of " + cells + " cells", x.read(0, INTS, 0, 3), cells / 3);
            DUE.is("torn", x.torn(), 2);
            DUE.is("owes", x.owes(0, 1), 99 - cells / 3);
            DUE.is("has", x.one(1, 1), cells / 3);
        }
    }

    private static void readNull() {
        DUE.sentence("40: What the machine refuses (NULL)");
        DebtRides x = Due.told(TWO);
        for (int lane = BYTES; lane <= INTS; lane++) {
            for (int f : new int[] {0, -1, 40}) {
                DUE.is("of nothing", x.read(2, lane, f, 13), 0);
                DUE.is("torn", x.torn(), 1);
            }
        }
    }

    private static void readCast() {
        DUE.sentence("40: of a SHEET taken as of a lane (CAST)");
        for (int made = BYTES; made <= INTS; made++) {
            for (int lane = BYTES; lane <= INTS; lane++) {
                DebtRides x = payer(9, 9, made, 3);
                DUE.is("lane " + made + " as " + lane, x.read(0, lane, 0, 1), made == lane ? 1 : 0);
                DUE.is("torn", x.torn(), made == lane ? 0 : 3);
                DUE.is("owes", x.owes(0, 1), made == lane ? 8 : 9);
                DUE.is("from beyond", x.read(0, lane, 40, 1), 0);
                DUE.is("torn", x.torn(), made == lane ? 2 : 3);
            }
        }
    }

    // ---- promise 40: what is refused

    private static void refusedTheIth() {
        DUE.sentence("40: -20 less i: the i-th, whole, is refused by pay()");
        for (int i = 0; i < 13; i++) {
            DebtRides x = payer(99, i, BYTES, 39);
            DUE.is("the " + i + "-th", x.read(0, BYTES, 0, 13), -20 - i);
            DUE.is("none came", x.owes(0, 1), i);
        }
    }

    private static void refusedInWhicheverWay() {
        DUE.sentence("40: (in whichever way)");
        int[][] rows = {{0, 0, 1}, {1, 1, 1}, {2, 0, 1}, {0, 2, 1}, {-1, 1, 1}, {0, -1, 1}, {0, 1, 0}, {0, 1, -1}, {0, 1, 100},
            {0, 1, 10}, {1, 0, 1}};
        for (int[] row : rows) {
            DebtRides x = payer(99, 9, INTS, 3);
            layRow(x, 0, row);
            DUE.is("BAD or STATE", x.read(0, INTS, 0, 1), -20);
        }
        DUE.is("he has less", payer(0, 9, INTS, 3).read(0, INTS, 0, 1), -20);
        DUE.is("he has as much", payer(1, 9, INTS, 3).read(0, INTS, 0, 1), 1);
        DebtRides nobody = new DebtRides();
        nobody.sheet(0, INTS, 3);
        DUE.is("of nobody", nobody.read(0, INTS, 0, 1), -20);
    }

    private static void refusedThenNoneCame() {
        DUE.sentence("40: then none came");
        DebtRides x = payer(99, 99, INTS, 9);
        layRow(x, 6, 0, 1, 98);
        String before = Due.state(x);
        DUE.is("the last is refused", x.read(0, INTS, 0, 3), -22);
        DUE.same("all is as it was", Due.state(x), before);
    }

    private static void theFirstMet() {
        DUE.sentence("40: the first met");
        DUE.is("the refused one is ahead of the torn one", payer(99, 1, INTS, 7).read(0, INTS, 0, 3), -21);
        DUE.is("the torn one is ahead", payer(99, 2, INTS, 7).read(0, INTS, 0, 13), 2);
        DUE.is("of two that are refused", payer(99, 0, INTS, 9).read(0, INTS, 0, 3), -20);
        DUE.is("what is not whole is not refused", payer(99, 0, INTS, 2).read(0, INTS, 0, 3), 0);
    }

    // ---- promise 41

    private static void tornAtFirst() {
        DUE.sentence("41: 0");
        DUE.is("no read() was", new DebtRides().torn(), 0);
        DebtRides x = payer(9, 9, BYTES, 3);
        x.lay(0, 40, 1);
        x.lay(1, 0, 1);
        x.sheet(1, BYTES, -1);
        DUE.is("lay() and sheet() do not count", x.torn(), 0);
    }

    private static void tornLatest() {
        DUE.sentence("41: The FAULT of the latest read()");
        DebtRides x = payer(99, 99, BYTES, 3);
        int[][] rows = {{1, BYTES, 0, 1, 1}, {0, BYTES, 1, 1, 2}, {0, INTS, 0, 1, 3}, {0, BYTES, 0, 1, 0}, {0, BYTES, 0, 2, 2},
            {0, BYTES, 0, 0, 0}};
        for (int[] row : rows) {
            x.read(row[0], row[1], row[2], row[3]);
            DUE.is("torn", x.torn(), row[4]);
            DUE.is("torn, asked again", x.torn(), row[4]);
        }
    }

    private static void tornOfWhatCameToAnEnd() {
        DUE.sentence("41: that came to an end");
        DebtRides x = payer(99, 99, BYTES, 3);
        x.read(0, INTS, 0, 1);
        DUE.is("cast", x.torn(), 3);
        DUE.is("BAD", x.read(0, BYTES, 0, 14), Due.BAD);
        DUE.is("is no end", x.torn(), 3);
        x.bond(0, 1, 0);
        DUE.is("refused", x.read(0, BYTES, 0, 1), -20);
        DUE.is("is no end", x.torn(), 3);
        x.bond(0, 1, 1);
        DUE.is("all came", x.read(0, BYTES, 0, 1), 1);
        DUE.is("is one", x.torn(), 0);
    }

    // ---- promise 42

    private static void countBounds() {
        DUE.sentence("42: count(what) .. BAD");
        DUE.bounds("what", DebtRides::new, 0, 4, (x, v) -> x.count(v));
    }

    private static void countSeen() {
        DUE.sentence("42: 0 SEEN");
        DebtRides x = Due.told(TWO);
        for (int i = 0; i <= 6; i++) {
            DUE.is("seen", x.count(0), i);
            x.see(0, 0, true);
        }
        DUE.is("seen", x.count(0), 6);
    }

    private static void countImages() {
        DUE.sentence("42: 1 IMAGES");
        DebtRides x = new DebtRides();
        DUE.is("none", x.count(1), 0);
        x.keep(1);
        DUE.is("one", x.count(1), 1);
        x.keep(1);
        DUE.is("one still", x.count(1), 1);
        x.keep(0);
        DUE.is("both", x.count(1), 2);
    }

    private static void countBytes() {
        DUE.sentence("42: 2 bytes on THE TAPE");
        DebtRides x = new DebtRides();
        for (int i = 0; i <= 160; i++) {
            DUE.is("bytes", x.count(2), i);
            x.feed(32);
        }
        DUE.is("bytes", x.count(2), 160);
        x.end(7);
        DUE.is("bytes", x.count(2), 7);
        x.text();
        DUE.is("bytes", x.count(2), 0);
    }

    private static void countCells() {
        DUE.sentence("42: 3 CELLS of SHEET 0 (NONE: nothing)");
        DebtRides x = new DebtRides();
        x.sheet(1, BYTES, 7);
        DUE.is("nothing", x.count(3), Due.NONE);
        x.sheet(0, BYTES, 0);
        DUE.is("none", x.count(3), 0);
        x.sheet(0, INTS, 40);
        DUE.is("all", x.count(3), 40);
    }

    private static void countPairs() {
        DUE.sentence("42: 4 pairs of whom one OWES the other, each way for itself");
        DebtRides x = Due.told("plain 0 0;".repeat(5));
        int pairs = 0;
        for (int i = 0; i < 25; i++) {
            DUE.is("pairs", x.count(4), pairs);
            pairs += x.bond(i / 5, i % 5, 1) == 0 ? 1 : 0;
        }
        DUE.is("all", x.count(4), 20);
        x.bond(3, 1, 0);
        DUE.is("one less", x.count(4), 19);
    }
}
