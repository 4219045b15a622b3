/** Promises 36 to 42: images and sheets. */
public final class SheetTest {
    private static final Due DUE = new Due("SheetTest");
    private static final String THREE = "plain 50 3;widow 60 2;squire 70 1;owes 0 1 20;owes 1 2 30;owes 2 0 40;dry 1;";

    public static void main(String[] args) {
        images();
        sheet();
        lay();
        lanes();
        read();
        readRefused();
        torn();
        count();
        wrongNumbers();
        DUE.close();
    }

    private static void images() {
        DebtRides x = Due.told(THREE);
        DUE.is("none to go back to", x.back(0), Due.STATE);
        x.see(4, 1, true);
        DUE.is("keep", x.keep(0), 0);
        String first = Due.state(x);
        x.days(3);
        x.dry(4);
        x.alter(0, 0, 3);
        x.alter(1, 2, 9);
        x.see(1, 0, false);
        DUE.is("keep the other", x.keep(1), 0);
        String second = Due.state(x);
        DUE.is("go back", x.back(0), 0);
        DUE.same("the first", Due.state(x), first.replace("| 1 1 0 ", "| 1 2 0 "));
        DUE.is("go on", x.back(1), 3);
        DUE.same("the second", Due.state(x), second);
        x.forget(0);
        x.bond(0, 1, 7);
        DUE.is("keep again", x.keep(1), 1);
        DUE.is("go back twice", x.back(0), 0);
        DUE.is("seen", x.count(0), 1);
        DUE.is("go on to what was kept last", x.back(1), 3);
        DUE.is("bond", x.owes(0, 1), 7);
        DUE.is("forgotten", x.count(0), 0);
        DUE.is("images", x.count(1), 2);
        DebtRides y = Due.told("plain 0 2;plain 0 0;owes 0 1 6;");
        y.see(3, 0, true);
        y.keep(0);
        DUE.is("as seen", y.earns(0), 1020);
        y.forget(0);
        y.see(2, 0, true);
        y.back(0);
        DUE.is("behind 3 days again", y.earns(0), 1020);
        y.forget(0);
        y.see(3, 0, false);
        y.back(0);
        DUE.is("riding again", y.earns(0), 1020);
        y.forget(0);
        y.see(3, 1, true);
        y.back(0);
        DUE.is("the same one again", y.earns(0), 1020);
        DUE.is("keep 2", x.keep(2), Due.BAD);
        DUE.is("keep -1", x.keep(-1), Due.BAD);
        DUE.is("back 2", x.back(2), Due.BAD);
        DUE.is("back -1", x.back(-1), Due.BAD);
    }

    private static void sheet() {
        DebtRides x = Due.told(THREE);
        for (int lane = 0; lane < 3; lane++) {
            DUE.is("40 cells", x.sheet(0, lane, 40), 1);
            DUE.is("cells", x.count(3), 40);
            DUE.is("41 cells", x.sheet(0, lane, 41), Due.BAD);
            DUE.is("-1 cells", x.sheet(0, lane, -1), -14);
            DUE.is("cells as before", x.count(3), 40);
            DUE.is("no cells", x.sheet(0, lane, 0), 1);
            DUE.is("none", x.count(3), 0);
        }
        DUE.is("lane 3", x.sheet(0, 3, 1), Due.BAD);
        DUE.is("lane -1", x.sheet(0, -1, -1), Due.BAD);
        DUE.is("sheet 4", x.sheet(4, 0, -1), Due.BAD);
        DUE.is("sheet -1", x.sheet(-1, 0, 1), Due.BAD);
        x.sheet(3, 2, 3);
        x.lay(3, 1, 1);
        x.lay(3, 2, 5);
        DUE.is("read of it", x.read(3, 2, 0, 1), 1);
        x.sheet(3, 2, 3);
        DUE.is("its cells are 0 anew", x.read(3, 2, 0, 1), -20);
    }

    private static void lay() {
        DebtRides x = Due.told(THREE);
        DUE.is("nothing", x.lay(1, 0, 1), -11);
        DUE.is("nothing, ahead of index", x.lay(1, -1, 1), -11);
        x.sheet(1, 0, 2);
        DUE.is("cell 0", x.lay(1, 0, 1), 1);
        DUE.is("cell 1", x.lay(1, 1, Integer.MIN_VALUE), 1);
        DUE.is("cell 2", x.lay(1, 2, 1), -12);
        DUE.is("cell -1", x.lay(1, -1, 1), -12);
        DUE.is("sheet 4", x.lay(4, 0, 1), Due.BAD);
        DUE.is("sheet -1", x.lay(-1, 0, 1), Due.BAD);
        for (int wild : Due.WILD) {
            DUE.is("cell wild", x.lay(1, wild, 1), -12);
        }
    }

    /** What read() answers if its sum is laid as v in a sheet of that lane. */
    private static int sumLaid(int lane, int v) {
        DebtRides x = Due.told(THREE);
        x.sheet(2, lane, 3);
        x.lay(2, 1, 1);
        x.lay(2, 2, v);
        int answer = x.read(2, lane, 0, 1);
        DUE.is("what is owed then", x.owes(0, 1), answer == 1 ? 16 : 20);
        return answer;
    }

    private static void lanes() {
        DUE.is("byte", sumLaid(0, 4), 1);
        DUE.is("byte's lowest bits", sumLaid(0, 0x7ffffe04), 1);
        DUE.is("byte below 0", sumLaid(0, 0x84), -20);
        DUE.is("short", sumLaid(1, 4), 1);
        DUE.is("short's lowest bits", sumLaid(1, 0x50004), 1);
        DUE.is("short of more than a byte", sumLaid(1, 0x104), -20);
        DUE.is("short below 0", sumLaid(1, 0x8004), -20);
        DUE.is("int", sumLaid(2, 4), 1);
        DUE.is("int of more than a short", sumLaid(2, 0x10004), -20);
        DUE.is("int below 0", sumLaid(2, 0x80000004), -20);
    }

    private static void layAll(DebtRides x, int k, int... cells) {
        for (int i = 0; i < cells.length; i++) {
            x.lay(k, i, cells[i]);
        }
    }

    private static void read() {
        DebtRides x = Due.told(THREE);
        x.sheet(0, 1, 9);
        layAll(x, 0, 0, 1, 5, 1, 2, 6, 2, 0, 7);
        DUE.is("none of them", x.read(0, 1, 0, 0), 0);
        DUE.is("three", x.read(0, 1, 0, 3), 3);
        DUE.is("torn", x.torn(), 0);
        DUE.is("0 owes 1", x.owes(0, 1), 15);
        DUE.is("1 owes 2", x.owes(1, 2), 24);
        DUE.is("2 owes 0", x.owes(2, 0), 33);
        DUE.is("0 has", x.one(0, 1), 52);
        DUE.is("1 has", x.one(1, 1), 59);
        DUE.is("2 has", x.one(2, 1), 69);
        DUE.is("from cell 3 on", x.read(0, 1, 3, 1), 1);
        DUE.is("1 owes 2 then", x.owes(1, 2), 18);
        DUE.is("beyond its end", x.read(0, 1, 3, 13), 2);
        DUE.is("torn by index", x.torn(), 2);
        DUE.is("those that were whole came", x.owes(2, 0), 26);
        x.sheet(1, 0, 5);
        layAll(x, 1, 0, 1, 5, 0, 1);
        DUE.is("the second is not whole", x.read(1, 0, 0, 2), 1);
        DUE.is("torn by index", x.torn(), 2);
        DUE.is("the first came", x.owes(0, 1), 10);
        x.sheet(2, 0, 39);
        for (int i = 0; i < 13; i++) {
            x.lay(2, 3 * i + 1, 2);
            x.lay(2, 3 * i + 2, 1);
        }
        x.bond(0, 2, 13);
        DUE.is("13", x.read(2, 0, 0, 13), 13);
        DUE.is("14", x.read(2, 0, 0, 14), Due.BAD);
        DUE.is("all of them came", x.owes(0, 2), 0);
        DUE.is("torn no more", x.torn(), 0);
    }

    private static void readRefused() {
        DebtRides x = Due.told(THREE);
        x.sheet(0, 2, 12);
        layAll(x, 0, 0, 1, 15, 1, 2, 6, 0, 1, 6, 2, 0, 7);
        String before = Due.state(x);
        DUE.is("the third is refused", x.read(0, 2, 0, 4), -22);
        DUE.same("none came", Due.state(x), before);
        DUE.is("the first two", x.read(0, 2, 0, 2), 2);
        int[][] refused = {{0, 0, 1}, {3, 0, 1}, {0, 3, 1}, {-1, 0, 1}, {0, 1, 0}, {0, 1, 100}, {0, 1, 6}, {0, 2, 1}};
        for (int[] row : refused) {
            layAll(x, 0, row);
            DUE.is("refused", x.read(0, 2, 0, 1), -20);
        }
        x.alter(0, 1, 4);
        layAll(x, 0, 0, 1, 5);
        DUE.is("he has less", x.read(0, 2, 0, 1), -20);
        // Met first: the refusal of the first, not the end of the sheet.
        x.sheet(0, 2, 4);
        DUE.is("refused ahead of torn", x.read(0, 2, 0, 2), -20);
        x.sheet(0, 2, 5);
        layAll(x, 0, 0, 1, 1, 9, 9);
        DUE.is("torn ahead of a refusal", x.read(0, 2, 0, 2), 1);
        // What comes by one payment can be paid on by the next.
        x.alter(1, 1, 0);
        x.alter(0, 1, 3);
        x.sheet(0, 2, 6);
        layAll(x, 0, 0, 1, 3, 1, 2, 3);
        DUE.is("one behind another", x.read(0, 2, 0, 2), 2);
        x.alter(0, 1, 9);
        x.alter(1, 1, 999);
        x.bond(0, 1, 9);
        layAll(x, 0, 0, 1, 3);
        DUE.is("999 at most", x.read(0, 2, 0, 1), 1);
        DUE.is("is 999", x.one(1, 1), 999);
    }

    private static void torn() {
        DebtRides x = Due.told(THREE);
        x.sheet(0, 1, 3);
        layAll(x, 0, 0, 1, 1);
        DUE.is("of nothing", x.read(1, 1, -5, 1), 0);
        DUE.is("by null", x.torn(), 1);
        DUE.is("of another lane", x.read(0, 0, -5, 1), 0);
        DUE.is("by cast", x.torn(), 3);
        DUE.is("bad", x.read(0, 3, 0, 1), Due.BAD);
        DUE.is("bad leaves it", x.torn(), 3);
        for (int f : new int[] {-1, 1, 3, 41, Integer.MIN_VALUE, Integer.MAX_VALUE, Integer.MAX_VALUE - 1}) {
            DUE.is("beyond", x.read(0, 1, f, 13), 0);
            DUE.is("by index", x.torn(), 2);
        }
        x.bond(0, 1, 0);
        DUE.is("refused", x.read(0, 1, 0, 1), -20);
        DUE.is("which did not come to an end", x.torn(), 2);
        DUE.is("none are read of nothing", x.read(1, 1, -5, 0), 0);
        DUE.is("0", x.torn(), 0);
        x.bond(0, 1, 5);
        x.read(1, 1, 0, 1);
        DUE.is("all came", x.read(0, 1, 0, 1), 1);
        DUE.is("0 again", x.torn(), 0);
        x.read(1, 1, 0, 1);
        x.keep(0);
        x.back(0);
        DUE.is("a text", Due.tell(x, THREE), 7);
        DUE.is("it stays", x.torn(), 1);
    }

    private static void count() {
        DebtRides x = Due.told(THREE);
        DUE.is("pairs", x.count(4), 3);
        x.bond(1, 0, 1);
        DUE.is("each way for itself", x.count(4), 4);
        x.bond(0, 1, 0);
        DUE.is("pairs less", x.count(4), 3);
        DUE.is("images", x.count(1), 0);
        x.keep(1);
        DUE.is("one image", x.count(1), 1);
        x.keep(1);
        DUE.is("still one", x.count(1), 1);
        x.keep(0);
        DUE.is("two images", x.count(1), 2);
        x.see(0, 0, true);
        DUE.is("seen", x.count(0), 1);
        x.feed(32);
        DUE.is("bytes", x.count(2), 1);
        x.sheet(1, 0, 9);
        DUE.is("sheet 0 is nothing", x.count(3), Due.NONE);
        x.sheet(0, 0, 7);
        DUE.is("cells", x.count(3), 7);
        DUE.is("5", x.count(5), Due.BAD);
    }

    private static void wrongNumbers() {
        DebtRides x = Due.told(THREE);
        x.sheet(0, 0, 3);
        for (int wild : Due.WILD) {
            DUE.is("keep", x.keep(wild), Due.BAD);
            DUE.is("back", x.back(wild), Due.BAD);
            DUE.is("sheet k", x.sheet(wild, 0, 1), Due.BAD);
            DUE.is("sheet lane", x.sheet(0, wild, 1), Due.BAD);
            DUE.is("sheet n", x.sheet(0, 0, wild), wild < 0 ? -14 : Due.BAD);
            DUE.is("lay k", x.lay(wild, 0, 1), Due.BAD);
            DUE.is("read k", x.read(wild, 0, 0, 1), Due.BAD);
            DUE.is("read lane", x.read(0, wild, 0, 1), Due.BAD);
            DUE.is("read n", x.read(0, 0, 0, wild), Due.BAD);
            DUE.is("count", x.count(wild), Due.BAD);
        }
        DUE.is("cells", x.count(3), 3);
    }
}
