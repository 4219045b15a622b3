/** The boundary cases of the text (Terms, part 1) and of promises 1 to 9, each sentence by a method of its own. */
public final class EdgeTextTest {
    private static final Due DUE = new Due("EdgeTextTest");
    private static final String ONE = "plain 0 0;";
    private static final String TWO = ONE.repeat(2);
    private static final String FIVE = ONE.repeat(5);

    public static void main(String[] args) {
        tapeAndTokens();
        lines();
        faults();
        whatIsTold();
        newObject();
        feedAndEnd();
        textAndFault();
        asked();
        DUE.close();
    }

    private static void tapeAndTokens() {
        tapeBytes();
        placesFromNought();
        tokensAsLongAsMayBe();
        blanksBetween();
        names();
        numbers();
        oneSemicolon();
    }

    private static void lines() {
        noLine();
        peopleAtMost();
        moneyTold();
        earningsTold();
        who();
        whom();
        howMuch();
        drynessTold();
    }

    private static void faults() {
        firstMet();
        readWhenTheOneBeforeIsTaken();
        noToken();
        tooLong();
        canNotStand();
        nameThatBeginsNoLine();
        theEnd();
        outOfBounds();
        alike();
        dryTwice();
        owedAlready();
        sixthOne();
        noSuchOne();
    }

    private static void whatIsTold() {
        inPlaceOfWhatThereWas();
        nothingIsSeen();
        imagesAreGone();
        nothingAtFirst();
    }

    private static void newObject() {
        nobody();
        sheetsOfNothing();
    }

    private static void feedAndEnd() {
        feedBounds();
        feedFull();
        feedBadAheadOfFull();
        endBounds();
        endKeepsTheFirst();
    }

    private static void textAndFault() {
        tapeIsEmptyThen();
        lessThePlace();
        toldStays();
        latestFault();
    }

    private static void asked() {
        ruleBounds();
        ruleExtremes();
        oneBounds();
        oneExtremes();
        owesBounds();
        meetBounds();
        meetNobody();
    }

    /** A text told to a new object: what text() and fault() answer. */
    private static void told(String text, int answer, int fault) {
        DebtRides x = new DebtRides();
        DUE.is("text of '" + text + "'", Due.tell(x, text), answer);
        DUE.is("fault of '" + text + "'", x.fault(), fault);
    }

    private static void taken(String text, int lines) {
        told(text, lines, 0);
    }

    private static void refused(String text, int fault, int place) {
        told(text, -10 - place, fault);
    }

    // ---- the tape, tokens

    private static void tapeBytes() {
        DUE.sentence("THE TAPE has 160 bytes");
        taken(" ".repeat(160), 0);
        taken(" ".repeat(154) + "dry 9;", 1);
        DebtRides x = new DebtRides();
        Due.feedAll(x, " ".repeat(155) + "dry 9;");
        DUE.is("the ; has no place", x.text(), -170);
    }

    private static void placesFromNought() {
        DUE.sentence("places from 0");
        refused("#", 1, 0);
        refused(" ".repeat(159) + "#", 1, 159);
        refused(";", 2, 0);
        refused(" ".repeat(159) + ";", 2, 159);
    }

    private static void tokensAsLongAsMayBe() {
        DUE.sentence("TOKENS, each as long as may be");
        refused("plainplain 1 1;", 2, 0);
        refused("dryx 1;", 2, 0);
        refused("dr y 1;", 2, 0);
        refused("plain 12;", 2, 8);
        taken("plain 12 3;", 1);
        taken("dry1;", 1);
    }

    private static void blanksBetween() {
        DUE.sentence("blanks (32) between");
        taken("  plain  1  1  ;  ", 1);
        refused("\tplain 1 1;", 1, 0);
        refused("plain 1 1;\n", 1, 10);
        refused("plain 1" + (char) 31 + "1;", 1, 7);
        refused("plain 1" + (char) 33 + "1;", 1, 7);
        refused("plain 1 1;" + (char) 0, 1, 10);
    }

    private static void names() {
        DUE.sentence("NAMES (a .. z)");
        refused("a", 2, 0);
        refused("z", 2, 0);
        refused("" + (char) ('a' - 1), 1, 0);
        refused("" + (char) ('z' + 1), 1, 0);
        refused("A", 1, 0);
        refused("Z", 1, 0);
        refused("dry_ 1;", 1, 3);
        refused("drY 1;", 2, 0);
    }

    private static void numbers() {
        DUE.sentence("NUMBERS (1 or 2 figures)");
        taken("plain 0 9;", 1);
        taken("plain 00 09;", 1);
        refused("dry /;", 1, 4);
        refused("dry :;", 1, 4);
        refused("dry -1;", 1, 4);
        refused("dry 000;", 1, 4);
    }

    private static void oneSemicolon() {
        DUE.sentence("one ;");
        refused("dry 1;;", 2, 6);
        refused(";;", 2, 0);
        refused("dry 1<", 1, 5);
    }

    // ---- lines

    private static void noLine() {
        DUE.sentence("text: { line }");
        taken("", 0);
        taken(" ", 0);
    }

    private static void peopleAtMost() {
        DUE.sentence("PEOPLE 0 on (5 at most, by order)");
        DebtRides x = Due.told("plain 1 0;widow 2 0;squire 3 0;miser 4 0;plain 5 0;");
        DUE.is("five", x.rule(0), 5);
        for (int p = 0; p < 5; p++) {
            DUE.is("kind of " + p, x.one(p, 0), p % 4);
            DUE.is("money of " + p, x.one(p, 1), p + 1);
        }
        DUE.is("a sixth there is not", x.one(5, 0), Due.BAD);
    }

    private static void moneyTold() {
        DUE.sentence("MONEY (.. told 0 to 99)");
        DUE.is("0", Due.told("plain 0 1;").one(0, 1), 0);
        DUE.is("99", Due.told("plain 99 1;").one(0, 1), 99);
        refused("plain 100 1;", 1, 6);
    }

    private static void earningsTold() {
        DUE.sentence("EARNS so much a DAY (0 to 9)");
        for (String kind : new String[] {"plain", "widow", "squire", "miser"}) {
            DUE.is("0", Due.told(kind + " 1 0;").one(0, 2), 0);
            DUE.is("9", Due.told(kind + " 1 9;").one(0, 2), 9);
            refused(kind + " 1 10;", 3, kind.length() + 3);
        }
    }

    private static void who() {
        DUE.sentence("owes: who (0 to 4)");
        DUE.is("0", Due.told(FIVE + "owes 0 1 7;").owes(0, 1), 7);
        DUE.is("4", Due.told(FIVE + "owes 4 1 7;").owes(4, 1), 7);
        refused("owes 5 1 7;", 3, 5);
        refused("owes 99 1 7;", 3, 5);
    }

    private static void whom() {
        DUE.sentence("owes: whom (0 to 4, another one)");
        DUE.is("0", Due.told(FIVE + "owes 1 0 7;").owes(1, 0), 7);
        DUE.is("4", Due.told(FIVE + "owes 1 4 7;").owes(1, 4), 7);
        refused("owes 1 5 7;", 3, 7);
        refused("owes 1 1 7;", 3, 7);
    }

    private static void howMuch() {
        DUE.sentence("owes: how much (1 to 99)");
        DUE.is("1", Due.told(TWO + "owes 0 1 1;").owes(0, 1), 1);
        DUE.is("99", Due.told(TWO + "owes 0 1 99;").owes(0, 1), 99);
        refused("owes 0 1 0;", 3, 9);
        refused("owes 0 1 00;", 3, 9);
        refused("owes 0 1 100;", 1, 9);
    }

    private static void drynessTold() {
        DUE.sentence("DRY (0 to 9), told by dry N ;");
        DUE.is("0", Due.told("dry 0;").rule(2), 0);
        DUE.is("9", Due.told("dry 9;").rule(2), 9);
        refused("dry 10;", 3, 4);
        refused("dry 99;", 3, 4);
    }

    // ---- faults

    private static void firstMet() {
        DUE.sentence("FAULTS, the first met as it is read");
        refused("dry 10;dry 10;#", 3, 4);
        refused("# dry 10;", 1, 0);
        refused("x dry 10;", 2, 0);
        refused("owes 0 1 1;owes 0 1 0;", 4, 18);
        refused("owes 0 1 0;owes 0 1 1;", 3, 9);
        refused("owes 3 4 1;dry 1;dry 1;", 4, 17);
        refused(FIVE + "owes 0 0 1;" + ONE, 3, 57);
    }

    private static void readWhenTheOneBeforeIsTaken() {
        DUE.sentence("(a TOKEN is read when the one before has been taken)");
        refused("x#", 2, 0);
        refused("dry 10#", 3, 4);
        refused("plain 1 10 123", 3, 8);
        refused("owes 5 #", 3, 5);
        refused("owes 2 2 #", 3, 7);
        refused("owes 0 1 0#", 3, 9);
        refused("dry 1;dry #", 4, 6);
        refused("owes 0 1 1;owes 0 1 123", 4, 18);
        refused(FIVE + "plain #", 5, 50);
        refused("dry ;#", 2, 4);
        refused("dry dry #", 2, 4);
    }

    private static void noToken() {
        DUE.sentence("1 no TOKEN");
        for (int c = 0; c < 128; c++) {
            boolean token = c == ' ' || c == ';' || c >= '0' && c <= '9' || c >= 'a' && c <= 'z';
            if (!token) {
                refused("dry 1;" + (char) c, 1, 6);
                refused("dry " + (char) c + "1;", 1, 4);
            }
        }
    }

    private static void tooLong() {
        DUE.sentence("1 a NUMBER that is too long (its first byte)");
        refused("plain 001 1;", 1, 6);
        refused("plain 1 001;", 1, 8);
        refused("dry 001;", 1, 4);
        refused("owes 000 1 1;", 1, 5);
        refused("owes 0 001 1;", 1, 7);
        refused("owes 0 1 001;", 1, 9);
        refused("123", 1, 0);
        refused("dry 1 123", 1, 6);
        refused("dry " + "1".repeat(156), 1, 4);
    }

    private static void canNotStand() {
        DUE.sentence("2 a TOKEN that can not stand there");
        refused("1;", 2, 0);
        refused(";", 2, 0);
        refused("plain ;", 2, 6);
        refused("plain plain 1 1;", 2, 6);
        refused("plain 1;", 2, 7);
        refused("plain 1 x;", 2, 8);
        refused("plain 1 1 1;", 2, 10);
        refused("plain 1 1 plain", 2, 10);
        refused("dry;", 2, 3);
        refused("dry 1 1;", 2, 6);
        refused("dry 1 dry", 2, 6);
        refused("owes;", 2, 4);
        refused("owes 0;", 2, 6);
        refused("owes 0 1;", 2, 8);
        refused("owes 0 1 x;", 2, 9);
        refused("owes 0 1 1 1;", 2, 11);
        refused("dry 1; 7", 2, 7);
    }

    private static void nameThatBeginsNoLine() {
        DUE.sentence("2 (a NAME that begins no line)");
        for (String name : new String[] {"plai", "plains", "wido", "widows", "squir", "squires", "mise", "misers",
            "owe", "owess", "dr", "dryy", "a", "z", "xlain", "xidow", "xquire", "xiser", "xwes", "xry", "plaix", "widox",
            "squirx", "misex", "owex", "drx"}) {
            refused(name + " 1 1;", 2, 0);
            refused("dry 1; " + name, 2, 7);
        }
    }

    private static void theEnd() {
        DUE.sentence("2 (or the end: the length)");
        refused("plain", 2, 5);
        refused("plain 1", 2, 7);
        refused("plain 1 1", 2, 9);
        refused("owes", 2, 4);
        refused("owes 0", 2, 6);
        refused("owes 0 1", 2, 8);
        refused("owes 0 1 1", 2, 10);
        refused("dry", 2, 3);
        refused("dry 1", 2, 5);
        refused("dry 1   ", 2, 8);
        refused("dry" + " ".repeat(157), 2, 160);
    }

    private static void outOfBounds() {
        DUE.sentence("3 a NUMBER out of its bounds");
        refused("plain 99 10;", 3, 9);
        refused("widow 99 99;", 3, 9);
        refused("dry 10;", 3, 4);
        refused("owes 5 0 1;", 3, 5);
        refused("owes 0 5 1;", 3, 7);
        refused("owes 0 1 0;", 3, 9);
    }

    private static void alike() {
        DUE.sentence("3 (owes: whom alike with who)");
        for (int p = 0; p < 5; p++) {
            refused(FIVE + "owes " + p + " " + p + " 1;", 3, 57);
        }
        refused("owes 1 01 1;", 3, 7);
    }

    private static void dryTwice() {
        DUE.sentence("4 dry for the second time (its NAME)");
        refused("dry 1;dry 1;", 4, 6);
        refused("dry 0;dry 0;", 4, 6);
        refused("dry 0;plain 1 1; dry 1;", 4, 17);
        taken("dry 1;", 1);
    }

    private static void owedAlready() {
        DUE.sentence("4 whom one is told to owe already (whom)");
        refused(TWO + "owes 0 1 1;owes 0 1 1;", 4, 38);
        refused(TWO + "owes 0 1 1;owes 0  01 2;", 4, 39);
        taken(TWO + "owes 0 1 1;owes 1 0 1;", 4);
        taken(FIVE + "owes 0 1 1;owes 0 2 1;owes 2 1 1;", 8);
    }

    private static void sixthOne() {
        DUE.sentence("5 the 6th ONE (its NAME)");
        taken(FIVE, 5);
        for (String kind : new String[] {"plain", "widow", "squire", "miser"}) {
            refused(FIVE + " " + kind + " 1 1;", 5, 51);
        }
        taken(FIVE + "dry 1;owes 0 4 1;", 7);
    }

    private static void noSuchOne() {
        DUE.sentence("Behind all (the length): 6 a ONE that there is not");
        refused("owes 0 1 1;", 6, 11);
        refused(TWO + "owes 2 0 1;", 6, 31);
        refused(TWO + "owes 0 2 1;", 6, 31);
        refused(TWO + "owes 0 2 1; ", 6, 32);
        refused("owes 0 4 1;" + ONE.repeat(4) + " ".repeat(109), 6, 160);
        taken("owes 0 4 1;" + FIVE, 6);
        taken("owes 4 3 1;" + FIVE, 6);
        refused("owes 0 4 1;" + ONE.repeat(4) + "x", 2, 51);
    }

    // ---- what a text tells

    private static void inPlaceOfWhatThereWas() {
        DUE.sentence("A text that is taken tells all, in place of what there was");
        DebtRides x = Due.told(FIVE + "owes 0 1 9;owes 1 0 9;dry 4;");
        x.days(7);
        DUE.is("text", Due.tell(x, TWO), 2);
        int[] rule = {2, 0, 0, 3, 0, 0};
        for (int w = 0; w < 6; w++) {
            DUE.is("rule " + w, x.rule(w), rule[w]);
        }
        DUE.is("nothing is owed", x.owes(0, 1) + x.owes(1, 0), 0);
        DUE.is("an empty text", x.text(), 0);
        DUE.is("tells of nobody", x.rule(0), 0);
    }

    private static void nothingIsSeen() {
        DUE.sentence("A text that is taken ..; nothing is SEEN");
        DebtRides x = Due.told(TWO);
        x.see(0, 0, false);
        DUE.is("never so", x.earns(0), 0);
        Due.tell(x, TWO);
        DUE.is("how many", x.count(0), 0);
        DUE.is("all fits", x.earns(0), 1023);
    }

    private static void imagesAreGone() {
        DUE.sentence("A text that is taken ..; IMAGES are gone");
        DebtRides x = Due.told(TWO);
        x.keep(0);
        x.keep(1);
        Due.tell(x, "");
        DUE.is("how many", x.count(1), 0);
        DUE.is("back 0", x.back(0), Due.STATE);
        DUE.is("back 1", x.back(1), Due.STATE);
        DUE.is("keep: there was none", x.keep(0), 0);
    }

    private static void nothingAtFirst() {
        DUE.sentence("OWES (0 at first). DAY (0 at first). DRY (0 at first)");
        DebtRides x = Due.told(FIVE);
        for (int i = 0; i < 25; i++) {
            DUE.is("owes " + i, x.owes(i / 5, i % 5), i / 5 == i % 5 ? Due.BAD : 0);
        }
        DUE.is("day", x.rule(1), 0);
        DUE.is("dry", x.rule(2), 0);
    }

    // ---- promise 1

    private static void nobody() {
        DUE.sentence("1: Nobody");
        DebtRides x = new DebtRides();
        for (int w = 0; w < 6; w++) {
            DUE.is("rule " + w, x.rule(w), 0);
        }
        DUE.is("one", x.one(0, 0), Due.BAD);
        DUE.is("owes", x.owes(0, 1), Due.BAD);
        DUE.is("fault", x.fault(), 0);
        DUE.is("torn", x.torn(), 0);
        DUE.is("seen", x.count(0), 0);
        DUE.is("images", x.count(1), 0);
        DUE.is("tape", x.count(2), 0);
        DUE.is("pairs", x.count(4), 0);
    }

    private static void sheetsOfNothing() {
        DUE.sentence("1: SHEETS of nothing");
        DebtRides x = new DebtRides();
        DUE.is("cells", x.count(3), Due.NONE);
        for (int k = 0; k < 4; k++) {
            DUE.is("lay", x.lay(k, 0, 0), -11);
            DUE.is("read", x.read(k, 0, 0, 1), 0);
            DUE.is("torn", x.torn(), 1);
        }
    }

    // ---- promises 2, 3

    private static void feedBounds() {
        DUE.sentence("2: A byte (0 to 127) .. BAD");
        DUE.bounds("feed", DebtRides::new, 0, 127, (x, v) -> x.feed(v));
        DebtRides x = new DebtRides();
        for (int c = 0; c < 128; c++) {
            DUE.is("feed " + c, x.feed(c), c + 1);
        }
    }

    private static void feedFull() {
        DUE.sentence("2: FULL: more than 160");
        DebtRides x = new DebtRides();
        Due.feedAll(x, " ".repeat(153) + "dry 7;");
        DUE.is("the 160th", x.feed(' '), 160);
        DUE.is("the 161st", x.feed('#'), Due.FULL);
        DUE.is("still", x.feed('#'), Due.FULL);
        DUE.is("how many", x.count(2), 160);
        DUE.is("one is taken off", x.end(159), 160);
        DUE.is("the 160th again", x.feed(' '), 160);
        DUE.is("the text", x.text(), 1);
        DUE.is("behind a text", x.feed(' '), 1);
    }

    private static void feedBadAheadOfFull() {
        DUE.sentence("2: BAD; FULL (the first that fits)");
        DebtRides x = new DebtRides();
        Due.feedAll(x, " ".repeat(160));
        DUE.is("128", x.feed(128), Due.BAD);
        DUE.is("-1", x.feed(-1), Due.BAD);
    }

    private static void endBounds() {
        DUE.sentence("3: THE TAPE keeps its first n bytes: how many it had. BAD");
        DebtRides x = new DebtRides();
        DUE.is("0 of none", x.end(0), 0);
        DUE.is("1 of none", x.end(1), Due.BAD);
        DUE.bounds("end", () -> {
            DebtRides y = new DebtRides();
            Due.feedAll(y, "dry 1;");
            return y;
        }, 0, 6, (y, v) -> y.end(v));
        Due.feedAll(x, " ".repeat(160));
        DUE.is("161 of 160", x.end(161), Due.BAD);
        DUE.is("160 of 160", x.end(160), 160);
        DUE.is("0 of 160", x.end(0), 160);
        DUE.is("0 of 0", x.end(0), 0);
    }

    private static void endKeepsTheFirst() {
        DUE.sentence("3: THE TAPE keeps its first n bytes");
        DebtRides x = new DebtRides();
        Due.feedAll(x, "dry 1;dry 2;");
        DUE.is("how many it had", x.end(6), 12);
        DUE.is("the next is behind them", x.feed(' '), 7);
        DUE.is("the text", x.text(), 1);
        DUE.is("the first", x.rule(2), 1);
    }

    // ---- promises 4, 5

    private static void tapeIsEmptyThen() {
        DUE.sentence("4: THE TAPE (empty then)");
        DebtRides x = new DebtRides();
        DUE.is("taken", Due.tell(x, "dry 1;"), 1);
        DUE.is("empty", x.count(2), 0);
        DUE.is("nothing to be kept", x.end(1), Due.BAD);
        DUE.is("refused", Due.tell(x, "dry x;"), -14);
        DUE.is("empty", x.count(2), 0);
        DUE.is("the next text is a new one", Due.tell(x, "dry 2;"), 1);
    }

    private static void lessThePlace() {
        DUE.sentence("4: how many lines; -10 less the place of its FAULT");
        taken("", 0);
        taken("dry 1;" + "owes 0 1 1;owes 1 0 1;" + TWO, 5);
        refused("#", 1, 0);
        refused(" ".repeat(159) + "1", 2, 159);
        refused(" ".repeat(157) + "dry", 2, 160);
    }

    private static void toldStays() {
        DUE.sentence("4: .. its FAULT: that which was told stays");
        for (String text : new String[] {"#", "x", "plain 0 10;", "dry 5;dry 5;", ONE.repeat(6), "owes 0 1 1;",
            "plain 7 7;owes 0 1 1;", "dry 5", "plain 7 7;plain"}) {
            DebtRides x = Due.told("widow 30 2;squire 40 1;owes 0 1 20;dry 1;");
            x.days(1);
            x.see(3, 0, true);
            x.keep(1);
            String before = Due.state(x);
            DUE.is("'" + text + "' is refused", Due.tell(x, text) <= -10 ? 1 : 0, 1);
            String fault = " " + x.fault() + " 0";
            DUE.same("what was told, behind '" + text + "'", Due.state(x), before.substring(0, before.length() - 4) + fault);
            DUE.is("the image", x.back(1), 1);
        }
    }

    private static void latestFault() {
        DUE.sentence("5: The FAULT of the latest text(); 0");
        DebtRides x = new DebtRides();
        DUE.is("at first", x.fault(), 0);
        String[] texts = {"#", ";", "dry 10;", "dry 1;dry 1;", ONE.repeat(6), "owes 0 1 1;"};
        for (int i = 0; i < texts.length; i++) {
            Due.tell(x, texts[i]);
            DUE.is("fault", x.fault(), i + 1);
            x.feed('#');
            x.end(0);
            DUE.is("it is asked again", x.fault(), i + 1);
        }
        Due.tell(x, TWO);
        DUE.is("of a text that is taken", x.fault(), 0);
    }

    // ---- promises 6 to 9

    private static DebtRides full() {
        DebtRides x = Due.told(FIVE);
        for (int i = 0; i < 25; i++) {
            x.bond(i / 5, i % 5, 99);
        }
        for (int p = 0; p < 5; p++) {
            x.alter(p, 1, 999);
        }
        return x;
    }

    private static void ruleBounds() {
        DUE.sentence("6: rule(what) .. BAD");
        DUE.bounds("rule what", DebtRides::new, 0, 5, (x, v) -> x.rule(v));
    }

    private static void ruleExtremes() {
        DUE.sentence("6: who RIDES (bits), all that is OWED, all MONEY");
        DebtRides x = full();
        DUE.is("nobody rides", x.rule(3), 0);
        DUE.is("owed", x.rule(4), 1980);
        DUE.is("money", x.rule(5), 4995);
        DebtRides y = Due.told(FIVE);
        DUE.is("all ride", y.rule(3), 31);
        y.bond(0, 4, 1);
        DUE.is("1 is enough to be ridden", y.rule(3), 30);
        y.bond(4, 0, 1);
        DUE.is("of the last, too", y.rule(3), 14);
    }

    private static void oneBounds() {
        DUE.sentence("7: one(p, what) .. BAD");
        DUE.bounds("p", () -> Due.told(TWO), 0, 1, (x, v) -> x.one(v, 0));
        DUE.bounds("p of five", () -> Due.told(FIVE), 0, 4, (x, v) -> x.one(v, 0));
        DUE.bounds("what", () -> Due.told(ONE), 0, 6, (x, v) -> x.one(0, v));
    }

    private static void oneExtremes() {
        DUE.sentence("7: MONEY, OWES in all, what all OWE him, HEIGHT, WILL at their most");
        DebtRides x = full();
        for (int p = 0; p < 5; p++) {
            DUE.is("money", x.one(p, 1), 999);
            DUE.is("owes", x.one(p, 3), 396);
            DUE.is("is owed", x.one(p, 4), 396);
            DUE.is("height", x.one(p, 5), 0);
            DUE.is("will", x.one(p, 6), 999);
        }
        for (int q = 1; q < 5; q++) {
            x.bond(0, q, 0);
        }
        x.alter(0, 0, 2);
        DUE.is("a squire whom all owe 396", x.one(0, 5), 793);
        DUE.is("a squire's will", x.one(0, 6), 249);
    }

    private static void owesBounds() {
        DUE.sentence("8: owes(p, q) .. BAD (also alike)");
        DUE.bounds("p", () -> Due.told(ONE.repeat(3)), 0, 2, (x, v) -> x.owes(v, v == 1 ? 0 : 1));
        DUE.bounds("q", () -> Due.told(ONE.repeat(3)), 0, 2, (x, v) -> x.owes(1, v));
        for (int p = 0; p < 5; p++) {
            DUE.is("alike " + p, full().owes(p, p), Due.BAD);
        }
    }

    private static void meetBounds() {
        DUE.sentence("9: meet(p, q) .. BAD (also alike)");
        DUE.bounds("p", () -> Due.told(ONE.repeat(3)), 0, 2, (x, v) -> x.meet(v, 1));
        DUE.bounds("q", () -> Due.told(ONE.repeat(3)), 0, 2, (x, v) -> x.meet(1, v));
        for (int p = 0; p < 5; p++) {
            DUE.is("alike " + p, full().meet(p, p), Due.BAD);
        }
    }

    private static void meetNobody() {
        DUE.sentence("9: who bows (NONE: nobody)");
        DebtRides x = Due.told(ONE.repeat(3) + "owes 2 0 1;");
        DUE.is("1 and one who is ridden, both 0 high", x.meet(1, 2), Due.NONE);
        DUE.is("0 is 1 high", x.meet(0, 1), 1);
        DUE.is("whoever is told first", x.meet(1, 0), 1);
        x.bond(2, 1, 1);
        DUE.is("both are 1 high", x.meet(0, 1), Due.NONE);
        x.bond(2, 1, 2);
        DUE.is("1 is higher", x.meet(0, 1), 0);
    }
}
