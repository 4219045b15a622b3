/** Promises 1 to 9: a new object, the tape and its text, what is asked of people. */
public final class TextTest {
    private static final Due DUE = new Due("TextTest");
    private static final String FOUR = "plain 10 3;widow 20 0;squire 40 2;miser 30 5;"
            + "owes 0 1 8;owes 0 2 9;owes 1 2 15;owes 3 0 12;dry 1;";

    public static void main(String[] args) {
        newObject();
        feed();
        end();
        textsTaken();
        textsRefused();
        textReplacesAll();
        refusedTextLeavesAll();
        rule();
        one();
        heightsAndWills();
        owesAndMeet();
        DUE.close();
    }

    private static void newObject() {
        DebtRides x = new DebtRides();
        for (int w = 0; w < 6; w++) {
            DUE.is("new rule " + w, x.rule(w), 0);
        }
        DUE.is("new fault", x.fault(), 0);
        DUE.is("new torn", x.torn(), 0);
        DUE.is("new one", x.one(0, 0), Due.BAD);
        DUE.is("new back 0", x.back(0), Due.STATE);
        DUE.is("new back 1", x.back(1), Due.STATE);
        for (int k = 0; k < 4; k++) {
            DUE.is("new lay", x.lay(k, 0, 1), -11);
        }
        DUE.is("new seen", x.count(0), 0);
        DUE.is("new images", x.count(1), 0);
        DUE.is("new tape", x.count(2), 0);
        DUE.is("new cells", x.count(3), Due.NONE);
        DUE.is("new pairs", x.count(4), 0);
        DUE.is("nobody: days", x.days(30), 0);
        DUE.is("nobody: day", x.rule(1), 30);
        DUE.is("nobody: all ride", x.runs(5, 3), 0);
        DUE.is("nobody: least", x.least(), 0);
        DUE.is("nobody: clear", x.clear(), 0);
        DUE.is("nobody: ring", x.ring(0), Due.NONE);
        DUE.is("nobody: give", x.give(1, 0), Due.NONE);
        DUE.is("nobody: forgive", x.forgive(0), Due.NONE);
        DUE.is("nobody: train", x.train(0, 0), Due.NONE);
        DUE.is("nobody: mean", x.mean(5, 8, 0), 0);
        DUE.is("nobody: mean by", x.mean(5, 8, 1), 1);
        DUE.is("nobody: drift", x.drift(1, 1, 0), Due.STATE);
        DUE.is("nobody: drift, bad first", x.drift(1, 0, 0), Due.BAD);
    }

    private static void feed() {
        DebtRides x = new DebtRides();
        DUE.is("feed -1", x.feed(-1), Due.BAD);
        DUE.is("feed 128", x.feed(128), Due.BAD);
        DUE.is("feed 0", x.feed(0), 1);
        DUE.is("feed 127", x.feed(127), 2);
        for (int i = 3; i <= 160; i++) {
            DUE.is("feed", x.feed(32), i);
        }
        DUE.is("feed the 161st", x.feed(32), Due.FULL);
        DUE.is("feed a bad 161st", x.feed(128), Due.BAD);
        DUE.is("bytes", x.count(2), 160);
        DUE.is("text of a full tape", x.text(), -10);
        DUE.is("tape is empty", x.feed(32), 1);
        for (int wild : Due.WILD) {
            DUE.is("feed wild", x.feed(wild), Due.BAD);
        }
    }

    private static void end() {
        DebtRides x = new DebtRides();
        DUE.is("end 0", x.end(0), 0);
        DUE.is("end 1 of 0", x.end(1), Due.BAD);
        Due.feedAll(x, "dry 7;x");
        DUE.is("end -1", x.end(-1), Due.BAD);
        DUE.is("end 8 of 7", x.end(8), Due.BAD);
        DUE.is("end 7 of 7", x.end(7), 7);
        DUE.is("end 6 of 7", x.end(6), 7);
        DUE.is("bytes", x.count(2), 6);
        DUE.is("text", x.text(), 1);
        DUE.is("dry", x.rule(2), 7);
        DUE.is("end behind a text", x.end(0), 0);
        for (int wild : Due.WILD) {
            DUE.is("end wild", x.end(wild), Due.BAD);
        }
    }

    private static void taken(String text, int lines) {
        DebtRides x = new DebtRides();
        DUE.is("lines of '" + text + "'", Due.tell(x, text), lines);
        DUE.is("fault of '" + text + "'", x.fault(), 0);
        DUE.is("tape behind '" + text + "'", x.count(2), 0);
    }

    private static void textsTaken() {
        taken("", 0);
        taken("    ", 0);
        taken("plain 5 2;", 1);
        taken("plain5 2;", 1);
        taken("  plain   5   2  ;  dry0;", 2);
        taken("plain 05 09;", 1);
        taken(" ".repeat(160), 0);
        taken("dry 9;" + " ".repeat(154), 1);
        taken(" ".repeat(154) + "dry 9;", 1);
        taken("plain 99 9;widow 0 0;squire 99 9;miser 1 1;plain 3 3;", 5);
        taken("owes 0 1 1;plain 1 1;plain 1 1;", 3);
        taken("owes 0 1 99;owes 1 0 1;plain 1 1;plain 1 1;dry 9;", 5);
        taken("owes 4 3 1;" + "plain 0 0;".repeat(5), 6);
    }

    private static void refused(String text, int fault, int place) {
        DebtRides x = new DebtRides();
        DUE.is("'" + text + "'", Due.tell(x, text), -10 - place);
        DUE.is("fault of '" + text + "'", x.fault(), fault);
        DUE.is("tape behind '" + text + "'", x.count(2), 0);
    }

    private static void textsRefused() {
        refused("Plain 1 1;", 1, 0);
        refused("plain\n1 1;", 1, 5);
        refused("plain 1 1;#", 1, 10);
        refused("plain 123 1;", 1, 6);
        refused("plain 1 000;", 1, 8);
        refused("owes 0 1 100;", 1, 9);
        refused("plain 1 " + "9".repeat(150), 1, 8);
        refused("plain 1 1" + (char) 127, 1, 9);
        refused("plain 1 1" + (char) 0, 1, 9);
        refused("plain 1 1`", 1, 9);
        refused("plain 1 1{", 1, 9);
        refused("plain 1 1/", 1, 9);
        refused("plain 1 1:", 1, 9);
        refused("plain", 2, 5);
        refused("plain  ", 2, 7);
        refused("plain 1 1", 2, 9);
        refused("plain 1 1 ;;", 2, 11);
        refused("plain 1 1;;", 2, 10);
        refused("plains 1 1;", 2, 0);
        refused("plai 1 1;", 2, 0);
        refused("pl ain 1 1;", 2, 0);
        refused("slain 1 1;", 2, 0);
        refused("plainz 1 1;", 2, 0);
        refused("z", 2, 0);
        refused("plain 1 1;" + " ".repeat(149) + "9", 2, 159);
        refused("plain 1 1;" + " ".repeat(145) + "plain", 2, 160);
        refused("dryness 1;", 2, 0);
        refused("owe 0 1 1;", 2, 0);
        refused("5;", 2, 0);
        refused("plain plain", 2, 6);
        refused("plain 1 ;", 2, 8);
        refused("plain 1 1 1;", 2, 10);
        refused("plain 1 1 x;", 2, 10);
        refused("dry;", 2, 3);
        refused("dry 1 1;", 2, 6);
        refused("owes;", 2, 4);
        refused("owes 0;", 2, 6);
        refused("owes 0 1;", 2, 8);
        refused("owes 0 1 1 1;", 2, 11);
        refused("plain 1 10;", 3, 8);
        refused("miser 99 99;", 3, 9);
        refused("dry 10;", 3, 4);
        refused("owes 5 0 1;", 3, 5);
        refused("owes 0 5 1;", 3, 7);
        refused("owes 2 2 1;", 3, 7);
        refused("owes 0 1 0;", 3, 9);
        refused("owes 0 1 00;", 3, 9);
        refused("dry 1;dry 2;", 4, 6);
        refused("dry 0;dry 0;", 4, 6);
        refused("dry 1; dry #", 4, 7);
        refused("owes 0 1 1;owes 0 1 #", 4, 18);
        refused("owes 0 1 1;owes 1 0 1;owes 0 1 1;", 4, 29);
        refused("plain 0 0;".repeat(6), 5, 50);
        refused("plain 0 0;".repeat(5) + "miser #", 5, 50);
        refused("owes 0 1 1;", 6, 11);
        refused("owes 0 1 1;plain 1 1;  ", 6, 23);
        refused("plain 1 1;plain 1 1;owes 2 0 1;", 6, 31);
        refused("plain 1 1;plain 1 1;owes 0 4 1;dry 1;", 6, 37);
        refused("owes 0 1 1;plain 1 10;", 3, 19);
    }

    private static void textReplacesAll() {
        DebtRides x = Due.told(FOUR);
        x.days(3);
        x.see(1, 0, true);
        x.keep(0);
        x.keep(1);
        x.sheet(0, 1, 5);
        DUE.is("a text in place of another", Due.tell(x, "miser 7 2;plain 1 1;"), 2);
        DUE.is("people", x.rule(0), 2);
        DUE.is("day", x.rule(1), 0);
        DUE.is("dry", x.rule(2), 0);
        DUE.is("riders", x.rule(3), 3);
        DUE.is("owed", x.rule(4), 0);
        DUE.is("money", x.rule(5), 8);
        DUE.is("owes", x.owes(0, 1), 0);
        DUE.is("kind", x.one(0, 0), 3);
        DUE.is("earns", x.one(0, 2), 2);
        DUE.is("third one", x.one(2, 0), Due.BAD);
        DUE.is("seen", x.count(0), 0);
        DUE.is("images", x.count(1), 0);
        DUE.is("back 0", x.back(0), Due.STATE);
        DUE.is("back 1", x.back(1), Due.STATE);
        DUE.is("sheets stay", x.count(3), 5);
        DUE.is("an empty text", x.text(), 0);
        DUE.is("nobody", x.rule(0), 0);
    }

    private static void refusedTextLeavesAll() {
        DebtRides x = Due.told(FOUR);
        x.days(1);
        x.see(1, 0, true);
        x.keep(0);
        String before = Due.state(x).replaceAll(" \\d+ \\d+$", "");
        DUE.is("refused", Due.tell(x, "miser 7 2;dry 3;plain 1;"), -33);
        DUE.same("state", Due.state(x).replaceAll(" \\d+ \\d+$", ""), before);
        DUE.is("fault", x.fault(), 2);
        DUE.is("back", x.back(0), 1);
        DUE.is("fault stays", x.fault(), 2);
        DUE.is("taken", Due.tell(x, "dry 3;"), 1);
        DUE.is("fault of a taken text", x.fault(), 0);
    }

    private static void rule() {
        DebtRides x = Due.told(FOUR);
        int[] want = {4, 0, 1, 4, 44, 100};
        for (int w = 0; w < want.length; w++) {
            DUE.is("rule " + w, x.rule(w), want[w]);
        }
        DUE.is("rule 6", x.rule(6), Due.BAD);
        x.days(2);
        DUE.is("day", x.rule(1), 2);
        DUE.is("riders", x.rule(3), 15);
        for (int wild : Due.WILD) {
            DUE.is("rule wild", x.rule(wild), Due.BAD);
        }
    }

    private static void one() {
        DebtRides x = Due.told(FOUR);
        int[][] want = {{0, 10, 3, 17, 12, 0, 10}, {1, 20, 0, 15, 8, 0, 10}, {2, 40, 2, 0, 24, 49, 10}, {3, 30, 5, 12, 0, 0, 15}};
        for (int p = 0; p < 4; p++) {
            for (int w = 0; w < 7; w++) {
                DUE.is("one " + p + " " + w, x.one(p, w), want[p][w]);
            }
            DUE.is("one what 7", x.one(p, 7), Due.BAD);
        }
        DUE.is("one 4", x.one(4, 0), Due.BAD);
        for (int wild : Due.WILD) {
            DUE.is("one wild", x.one(wild, 0), Due.BAD);
            DUE.is("one what wild", x.one(0, wild), Due.BAD);
        }
    }

    private static void heightsAndWills() {
        DebtRides x = Due.told("plain 43 0;plain 0 0;");
        int[][] heights = {{0, 0, 1, 0}, {1, 1, 3, 0}, {2, 1, 5, 0}, {3, 2, 7, 1}, {99, 50, 199, 49}};
        for (int[] row : heights) {
            int claims = row == heights[0] ? 0 : row == heights[1] ? 1 : row == heights[2] ? 2 : row == heights[3] ? 3 : 99;
            x.bond(1, 0, claims);
            for (int k = 0; k < 4; k++) {
                x.alter(0, 0, k);
                DUE.is("height of kind " + k + " owed " + claims, x.one(0, 5), row[k]);
            }
        }
        x.bond(0, 1, 9);
        int[] wills = {43, 21, 10, 0};
        for (int k = 0; k < 4; k++) {
            x.alter(0, 0, k);
            DUE.is("will of kind " + k, x.one(0, 6), wills[k]);
            DUE.is("height of one ridden", x.one(0, 5), 0);
        }
        x.bond(0, 1, 10);
        DUE.is("will of a miser who owes 10", x.one(0, 6), 21);
        x.bond(0, 1, 0);
        DUE.is("will of a miser who rides", x.one(0, 6), 0);
    }

    private static void owesAndMeet() {
        DebtRides x = Due.told(FOUR);
        DUE.is("owes 0 1", x.owes(0, 1), 8);
        DUE.is("owes 1 0", x.owes(1, 0), 0);
        DUE.is("owes 3 0", x.owes(3, 0), 12);
        DUE.is("owes alike", x.owes(2, 2), Due.BAD);
        DUE.is("owes 4", x.owes(4, 0), Due.BAD);
        DUE.is("owes whom 4", x.owes(0, 4), Due.BAD);
        DUE.is("meet ridden ones", x.meet(0, 1), Due.NONE);
        DUE.is("meet 0 2", x.meet(0, 2), 0);
        DUE.is("meet 2 0", x.meet(2, 0), 0);
        DUE.is("meet 2 3", x.meet(2, 3), 3);
        DUE.is("meet alike", x.meet(2, 2), Due.BAD);
        DUE.is("meet 4", x.meet(4, 2), Due.BAD);
        DUE.is("meet whom 4", x.meet(2, 4), Due.BAD);
        for (int wild : Due.WILD) {
            DUE.is("owes wild", x.owes(wild, 0), Due.BAD);
            DUE.is("owes whom wild", x.owes(0, wild), Due.BAD);
            DUE.is("meet wild", x.meet(wild, 0), Due.BAD);
            DUE.is("meet whom wild", x.meet(0, wild), Due.BAD);
        }
    }
}
