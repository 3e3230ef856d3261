/** Each promise of the document by itself: ordinary inputs, the edges that are named, wrong inputs. */
public final class PromiseTests {
    private static final int NONE = -1000000, BAD = -1000001, STATE = -1000002, FULL = -1000003;
    private static final int NULL = -1000011, PLACE = -1000012, KIND = -1000013, SIZE = -1000014, STORE = -1000015;
    private static final int LEAST = Integer.MIN_VALUE, MOST = Integer.MAX_VALUE;
    /** Takes are 7, 8, 12, 4, 3; STORMS are 2, 4, 1, 3, 0 and so on. */
    private static final String FIVE = "l3,4,17,2,6;i2,2,5;c7,0,4;r9,1,9;w0,2,3;p4,1,2;";
    /** No STORMS, and 20 is taken in each SEASON. */
    private static final String CALM = "l0,5,30,0,9;i0,1,4;";
    /** No STORMS, and 145 is taken in each SEASON. */
    private static final String RICH = "l2,5,30,0,9;i7,1,3;i7,1,3;i7,1,3;i7,1,3;i7,1,3;";
    private static int promise = 0;
    private static int wrong = 0;

    public static void main(String[] args) {
        theConstants();
        aNewObject();
        rowsAreMade();
        itemsAreSet();
        itemsAreCopied();
        rowsAreDropped();
        bytesComeToTheTape();
        coastsAreRead();
        faultsOfTheLaw();
        faultsOfPiers();
        faultsAreTold();
        seasonsPass();
        stormsTakeByKinds();
        spansAreBuilt();
        piersAreTurned();
        ironIsBought();
        actsAreUndone();
        actsOfEachPier();
        actsAreForgotten();
        piersAreTold();
        spansAreForetold();
        pursesAreForetold();
        piersGo();
        piersAreAimed();
        yearsAreTaken();
        ironIsGiven();
        ironIsGivenAtTheLimits();
        oneIsTurned();
        piersCross();
        whatFits();
        piersBurn();
        decadesAreDrawn();
        imagesAreKept();
        imagesAreRestored();
        kindsAreTold();
        piersAreTakenAs();
        asksAreAnswered();
        theTraceIsTold();
        allIsCounted();
        theStatusIsTold();
        System.out.println(wrong == 0 ? "all answers are as due" : wrong + " answers are not as due");
        System.exit(wrong == 0 ? 0 : 1);
    }

    private static void due(String what, int got, int want) {
        if (got != want) {
            wrong++;
            System.out.println("promise " + promise + ": " + what + " answered " + got + ", due is " + want);
        }
    }

    private static PierYears with(String text) {
        PierYears x = new PierYears();
        read(x, text);
        return x;
    }

    private static int read(PierYears x, String text) {
        for (char letter : text.toCharArray()) {
            x.feed(letter);
        }
        return x.coast();
    }

    private static void pass(PierYears x, int n) {
        for (int left = n; left > 0; left -= 24) {
            x.seasons(Math.min(24, left));
        }
    }

    private static void buildAll(PierYears x, int pier, int n) {
        for (int k = 0; k < n; k++) {
            x.build(pier);
        }
    }

    /** A PIER of 99 spans, with IRON 19 and PURSE 1075, in SEASON 45 of a coast without STORMS. */
    private static PierYears withLongPier() {
        PierYears x = with("l0,5,30,0,9;w0,1,9;i0,1,4;");
        pass(x, 45);
        for (int k = 0; k < 5; k++) {
            x.buy(20);
            buildAll(x, 0, 18);
        }
        return x;
    }

    private static void theConstants() {
        due("NONE", PierYears.NONE, NONE);
        due("BAD", PierYears.BAD, BAD);
        due("STATE", PierYears.STATE, STATE);
        due("FULL", PierYears.FULL, FULL);
    }

    private static void aNewObject() {
        promise = 1;
        PierYears x = new PierYears();
        for (int what = 0; what <= 8; what++) {
            due("count(" + what + ")", x.count(what), 0);
        }
        due("seasons", x.seasons(1), STATE);
        due("image", x.image(0), STATE);
        due("restore", x.restore(1), STATE);
        due("undo", x.undo(), STATE);
        due("pier", x.pier(0, 0), BAD);
        due("fault", x.fault(), 0);
        due("status", x.status(), 0);
        due("trace", x.trace(0), NONE);
        due("drop", x.drop(7), NULL);
    }

    private static void rowsAreMade() {
        promise = 2;
        PierYears x = new PierYears();
        due("row of none", x.row(0, 0, 0), 0);
        due("row of 40", x.row(7, 2, 40), 40);
        due("row 8", x.row(8, 0, 1), BAD);
        due("row -1", x.row(-1, 0, 1), BAD);
        due("lane 3", x.row(0, 3, 1), BAD);
        due("lane -1", x.row(0, -1, 1), BAD);
        due("41", x.row(0, 0, 41), BAD);
        due("41 at most ever", x.row(0, 0, MOST), BAD);
        due("BAD ahead of SIZE", x.row(8, 0, -1), BAD);
        due("BAD ahead of SIZE", x.row(0, 3, -1), BAD);
        due("SIZE", x.row(7, 0, -1), SIZE);
        due("SIZE", x.row(7, 0, LEAST), SIZE);
        due("what is found changes nothing", x.set(7, 39, 70000), 70000);
        x.set(7, 0, 5);
        x.set(7, 1, 5);
        due("in place", x.row(7, 1, 2), 2);
        due("its end", x.set(7, 2, 1), PLACE);
        due("anew 0", sumSeen(x, 7, 2), 0);
        due("how many", x.count(0), 2);
    }

    /** Whether the first n ITEMS are 0, seen by what fits: a COAST that takes nothing. */
    private static int sumSeen(PierYears x, int row, int n) {
        read(x, "l0,0,1,0,0;i0,1,0;");
        return x.fits(0, row, 0, n, 1) == 7 ? 0 : 1;
    }

    private static void itemsAreSet() {
        promise = 3;
        PierYears x = new PierYears();
        for (int lane = 0; lane < 3; lane++) {
            x.row(lane, lane, 3);
        }
        due("byte 127", x.set(0, 0, 127), 127);
        due("byte 128", x.set(0, 1, 128), -128);
        due("byte -129", x.set(0, 2, -129), 127);
        due("byte 256", x.set(0, 2, 256), 0);
        due("short 32767", x.set(1, 0, 32767), 32767);
        due("short 32768", x.set(1, 0, 32768), -32768);
        due("short 255", x.set(1, 0, 255), 255);
        due("int", x.set(2, 2, LEAST), LEAST);
        due("int", x.set(2, 2, MOST), MOST);
        due("place 3", x.set(0, 3, 1), PLACE);
        due("place -1", x.set(0, -1, 1), PLACE);
        due("place far", x.set(0, MOST, 1), PLACE);
        due("missing", x.set(3, 0, 1), NULL);
        due("missing ahead of place", x.set(3, -1, 1), NULL);
        due("row 8", x.set(8, 0, 1), BAD);
        due("row -1", x.set(-1, 0, 1), BAD);
    }

    private static void itemsAreCopied() {
        promise = 4;
        PierYears x = new PierYears();
        x.row(0, 1, 4);
        x.row(1, 1, 3);
        x.row(2, 0, 4);
        due("two lanes", x.copy(0, 0, 2, 0, 1), STORE);
        due("two lanes ahead of place", x.copy(0, 9, 2, -1, 1), STORE);
        due("missing a", x.copy(3, 0, 2, 0, 1), NULL);
        due("missing b", x.copy(0, 0, 3, 0, 1), NULL);
        due("row 8", x.copy(8, 0, 3, 0, 1), BAD);
        due("row -1", x.copy(3, 0, -1, 0, 1), BAD);
        due("i", x.copy(0, -1, 1, 0, 1), PLACE);
        due("j", x.copy(0, 0, 1, -1, 1), PLACE);
        due("n", x.copy(0, 1, 1, 1, -1), PLACE);
        due("beyond a", x.copy(1, 1, 0, 0, 3), PLACE);
        due("beyond b", x.copy(0, 0, 1, 1, 3), PLACE);
        due("far", x.copy(0, MOST, 1, 0, MOST), PLACE);
        due("far", x.copy(0, 1, 1, 1, MOST), PLACE);
        due("none at the ends", x.copy(0, 4, 1, 3, 0), 0);
        due("none beyond", x.copy(0, 5, 1, 3, 0), PLACE);
        itemsAreAsTheyWere();
    }

    /** CALM takes 20, by 2 spans it would take 10, by none 0: SORTS and LONG tell which numbers stand in a ROW. */
    private static void itemsAreAsTheyWere() {
        PierYears x = with(CALM);
        x.row(0, 1, 4);
        x.set(0, 0, 20);
        x.set(0, 1, 10);
        due("up, over itself", x.copy(0, 0, 0, 1, 3), 3);
        due("20 at 0", x.fits(0, 0, 0, 1, 2), 62);
        due("20 at 1", x.fits(0, 0, 1, 1, 2), 62);
        due("10 at 2", x.fits(0, 0, 2, 1, 3) & 7, 4);
        due("0 at 3", x.fits(0, 0, 3, 1, 3) & 7, 1);
        due("down, over itself", x.copy(0, 1, 0, 0, 3), 3);
        due("20 at 0", x.fits(0, 0, 0, 1, 2), 62);
        due("10 at 1", x.fits(0, 0, 1, 1, 3) & 7, 4);
        due("0 at 2", x.fits(0, 0, 2, 1, 3) & 7, 1);
        x.row(1, 1, 2);
        due("to another", x.copy(0, 0, 1, 1, 1), 1);
        due("20 at 1", x.fits(0, 1, 1, 1, 2), 62);
        due("0 at 0", x.fits(0, 1, 0, 1, 2), 0);
    }

    private static void rowsAreDropped() {
        promise = 5;
        PierYears x = new PierYears();
        x.row(0, 0, 7);
        x.row(7, 0, 0);
        due("7 items", x.drop(0), 7);
        due("none", x.drop(7), 0);
        due("missing", x.drop(0), NULL);
        due("missing then", x.set(0, 0, 1), NULL);
        due("row 8", x.drop(8), BAD);
        due("row -1", x.drop(-1), BAD);
        due("how many", x.count(0), 0);
    }

    private static void bytesComeToTheTape() {
        promise = 6;
        PierYears x = new PierYears();
        due("-1", x.feed(-1), BAD);
        due("256", x.feed(256), BAD);
        due("0", x.feed(0), 1);
        due("255", x.feed(255), 2);
        for (int k = 3; k <= 100; k++) {
            due("the next", x.feed('l'), k);
        }
        due("101", x.feed('l'), FULL);
        due("BAD ahead of FULL", x.feed(256), BAD);
        due("on the tape", x.count(7), 100);
        due("read", x.coast(), -1000100);
        due("empty then", x.feed('l'), 1);
    }

    private static void coastsAreRead() {
        promise = 7;
        PierYears x = new PierYears();
        due("five", read(x, FIVE), 5);
        due("empty then", x.count(7), 0);
        due("iron", x.count(5), 6);
        pass(x, 3);
        x.turn(0, 0);
        due("no piers, in place", read(x, "l9,9,30,9,9;"), 0);
        due("piers", x.count(1), 0);
        due("season", x.count(2), 0);
        due("purse", x.count(4), 0);
        due("iron", x.count(5), 9);
        due("acts", x.count(6), 0);
        due("spans", x.count(8), 0);
        due("two figures", read(x, "l00,01,02,03,04;p09,02,09;"), 1);
        due("from", x.pier(0, 0), 9);
        due("lean", x.pier(0, 1), 2);
        due("spans", x.pier(0, 2), 9);
        due("out, round", x.take(5, 5), 1);
        due("gale", x.count(3), 3);
        due("iron", x.count(5), 4);
        due("the least", read(x, "l0,0,1,0,0;i0,0,0;"), 1);
        due("what was on the tape is gone", read(x, "l0"), -1000102);
        read(x, FIVE);
        due("what was on the tape is gone", read(x, "l3,4,17,2,6"), -1000111);
        allStaysByAFault();
    }

    private static void allStaysByAFault() {
        PierYears x = with(FIVE);
        pass(x, 2);
        due("a fault at its end", read(x, "l1,1,1,1,1;i1,1,1;w2,2,2;p3"), -1000100 - 27);
        due("piers", x.count(1), 5);
        due("kind", x.kind(1), 2);
        due("from", x.pier(1, 0), 7);
        due("season", x.count(2), 2);
        due("purse", x.count(4), 68);
        due("acts", x.count(6), 2);
        due("empty then", x.count(7), 0);
        due("undone", x.undo(), 1);
    }

    private static void fault(String text, int place, int number) {
        PierYears x = new PierYears();
        due(text, read(x, text), -1000100 - place);
        due("fault of " + text, x.fault(), number);
        due("no coast", x.purse(0), STATE);
    }

    private static void faultsOfTheLaw() {
        promise = 7;
        fault("", 0, 1);
        fault("l", 1, 1);
        fault("i1,1,1;", 0, 1);
        fault("1", 0, 1);
        fault(" l1,1,1,1,1;", 0, 1);
        fault("l,", 1, 1);
        fault("l 1", 1, 1);
        fault("l1", 2, 1);
        fault("l1;", 2, 1);
        fault("l1a", 2, 1);
        fault("l123,1,1,1,1;", 1, 1);
        fault("l1234,", 1, 1);
        fault("l000,1,1,1,1;", 1, 1);
        fault("l10,", 1, 2);
        fault("l10", 1, 2);
        fault("l10;", 1, 2);
        fault("l1,10,", 3, 2);
        fault("l1,1,0,", 5, 2);
        fault("l1,1,31,", 5, 2);
        fault("l1,1,30,10,", 8, 2);
        fault("l1,1,30,1,10;", 10, 2);
        fault("l1,1,30,1,1,", 11, 1);
        fault("l1,1,30,1,1", 11, 1);
        fault("l1,1,30,1,1.", 11, 1);
        fault("L1,1,30,1,1;", 0, 1);
        fault("l1,1,30,1,/", 10, 1);
        fault("l1,1,30,1,:", 10, 1);
    }

    private static void faultsOfPiers() {
        fault("l1,1,1,1,1;l1,1,1,1,1;", 11, 1);
        fault("l1,1,1,1,1;x", 11, 1);
        fault("l1,1,1,1,1;;", 11, 1);
        fault("l1,1,1,1,1;1", 11, 1);
        fault("l1,1,1,1,1; ", 11, 1);
        fault("l1,1,1,1,1;i", 12, 1);
        fault("l1,1,1,1,1;ii", 12, 1);
        fault("l1,1,1,1,1;i10,", 12, 2);
        fault("l1,1,1,1,1;i9,3,", 14, 2);
        fault("l1,1,1,1,1;i9,2,10;", 16, 2);
        fault("l1,1,1,1,1;i9,2,9,", 17, 1);
        fault("l1,1,1,1,1;i9,2;", 15, 1);
        fault("l1,1,1,1,1;i9,2,999;", 16, 1);
        String four = "l1,1,1,1,1;i1,1,1;i1,1,1;i1,1,1;i1,1,1;";
        fault(four + "w1,1,1;c", 46, 3);
        fault(four + "w1,1,1;x", 46, 1);
        fault(four + "w1,1,1;pppp", 46, 3);
        fault(four + "w1,1,1", 45, 1);
        due("five stand", read(new PierYears(), four + "w1,1,1;"), 5);
    }

    private static void faultsAreTold() {
        promise = 8;
        PierYears x = new PierYears();
        due("before one", x.fault(), 0);
        read(x, FIVE);
        due("before one yet", x.fault(), 0);
        read(x, "l10");
        due("2", x.fault(), 2);
        read(x, FIVE);
        due("the latest yet", x.fault(), 2);
        read(x, FIVE + "i");
        due("3", x.fault(), 3);
        x.coast();
        due("1", x.fault(), 1);
    }

    private static void seasonsPass() {
        promise = 9;
        PierYears x = new PierYears();
        due("no coast ahead of BAD", x.seasons(0), STATE);
        read(x, FIVE);
        due("0", x.seasons(0), BAD);
        due("25", x.seasons(25), BAD);
        due("-1", x.seasons(-1), BAD);
        due("1", x.seasons(1), 34);
        due("season", x.count(2), 1);
        due("an act", x.count(6), 1);
        due("spans", x.count(8), 16);
        due("1 more", x.seasons(1), 68);
        due("spans", x.count(8), 5);
        due("24", x.seasons(24), 166);
        due("season", x.count(2), 26);
        due("acts", x.count(6), 24);
        theLastSeason();
        theFullPurse();
    }

    private static void theLastSeason() {
        PierYears x = with("l1,1,9,0,0;");
        pass(x, 984);
        due("beyond 999", x.seasons(16), FULL);
        due("it stays", x.count(2), 984);
        due("to 999", x.seasons(15), 0);
        due("at 999", x.count(2), 999);
        due("beyond", x.seasons(1), FULL);
        due("BAD ahead of FULL", x.seasons(25), BAD);
        due("foretold beyond", x.purse(60), 0);
    }

    private static void theFullPurse() {
        PierYears x = with(RICH);
        pass(x, 68);
        due("145 each", x.count(4), 9860);
        due("not full yet", x.purse(0), 9860);
        due("full", x.seasons(1), 9999);
        due("full", x.seasons(24), 9999);
    }

    private static void stormsTakeByKinds() {
        promise = 9;
        // what is left behind each of the STORMS 3, 1, 4, 2, 0 of SEASONS 0 to 4
        int[][] left = {{6, 5, 1, 0, 0}, {8, 8, 6, 5, 5}, {5, 4, 0, 0, 0}, {8, 7, 6, 5, 5}, {9, 9, 8, 8, 8}};
        String sorts = "icrwp";
        for (int k = 0; k < 5; k++) {
            PierYears x = with("l1,1,30,3,0;" + sorts.charAt(k) + "0,1,9;");
            for (int t = 0; t < 5; t++) {
                due("storm", x.count(3), new int[] {3, 1, 4, 2, 0}[t]);
                x.seasons(1);
                due(sorts.charAt(k) + " behind season " + t, x.pier(0, 2), left[k][t]);
            }
        }
        PierYears calm = with("l1,1,30,5,0;r0,1,9;w0,1,9;");
        calm.seasons(1);
        due("a rusty one without a storm, even", calm.pier(0, 2), 8);
        due("wood without a storm", calm.pier(1, 2), 9);
        calm.seasons(1);
        due("a rusty one without a storm, odd", calm.pier(0, 2), 8);
    }

    private static void spansAreBuilt() {
        promise = 10;
        PierYears x = new PierYears();
        due("no coast", x.build(0), BAD);
        read(x, "l1,1,9,0,2;i1,1,9;w1,1,0;");
        due("pier 2", x.build(2), BAD);
        due("pier -1", x.build(-1), BAD);
        due("ten", x.build(0), 10);
        due("iron", x.count(5), 1);
        due("one", x.build(1), 1);
        due("acts", x.count(6), 2);
        due("no iron", x.build(1), STATE);
        due("BAD ahead of no iron", x.build(2), BAD);
        due("it stays", x.count(8), 11);
        PierYears longest = withLongPier();
        due("99", longest.pier(0, 2), 99);
        due("FULL", longest.build(0), FULL);
        due("iron stays", longest.count(5), 19);
        due("another", longest.build(1), 5);
    }

    private static void piersAreTurned() {
        promise = 11;
        PierYears x = new PierYears();
        due("no coast", x.turn(0, 0), BAD);
        read(x, FIVE);
        due("lean 3", x.turn(0, 3), BAD);
        due("lean -1", x.turn(0, -1), BAD);
        due("pier 5", x.turn(5, 0), BAD);
        due("it does so", x.turn(0, 2), STATE);
        due("turned", x.turn(0, 0), 2);
        due("lean", x.pier(0, 1), 0);
        due("place", x.pier(0, 3), 7);
        due("straight", x.turn(0, 1), 0);
        due("place", x.pier(0, 3), 2);
        due("acts", x.count(6), 2);
        due("another stays", x.pier(1, 1), 0);
    }

    private static void ironIsBought() {
        promise = 12;
        PierYears x = new PierYears();
        due("no coast ahead of BAD", x.buy(0), STATE);
        read(x, CALM);
        due("0", x.buy(0), BAD);
        due("21", x.buy(21), BAD);
        due("purse 0", x.buy(1), STATE);
        x.seasons(1);
        due("five are too many", x.buy(5), STATE);
        due("four", x.buy(4), 13);
        due("purse", x.count(4), 0);
        due("an act each", x.count(6), 2);
        pass(x, 24);
        due("to 33", x.buy(20), 33);
        due("to 53", x.buy(20), 53);
        due("to 73", x.buy(20), 73);
        due("to 93", x.buy(20), 93);
        due("7 more are too many", x.buy(7), FULL);
        due("to 99", x.buy(6), 99);
        due("FULL", x.buy(1), FULL);
        due("purse", x.count(4), 50);
        due("STATE ahead of FULL", x.buy(11), STATE);
        due("BAD ahead of FULL", x.buy(21), BAD);
    }

    private static void actsAreUndone() {
        promise = 13;
        PierYears x = with(FIVE);
        due("none", x.undo(), STATE);
        x.seasons(2);
        x.build(1);
        x.turn(0, 1);
        x.buy(3);
        due("acts", x.count(6), 5);
        due("bought", x.undo(), 4);
        due("iron", x.count(5), 5);
        due("purse", x.count(4), 68);
        due("turned", x.undo(), 3);
        due("lean", x.pier(0, 1), 2);
        due("built", x.undo(), 2);
        due("spans", x.pier(1, 2), 1);
        due("iron", x.count(5), 6);
        due("a season", x.undo(), 1);
        due("season", x.count(2), 1);
        due("purse", x.count(4), 34);
        due("spans", x.pier(2, 2), 6);
        due("the first", x.undo(), 0);
        due("spans", x.count(8), 23);
        due("none", x.undo(), STATE);
        x.build(0);
        due("refused is no act", x.turn(0, 2), STATE);
        due("one", x.count(6), 1);
        read(x, FIVE);
        due("a new coast", x.undo(), STATE);
    }

    private static void actsOfEachPier() {
        PierYears x = with(FIVE);
        for (int p = 0; p < 5; p++) {
            int lean = x.pier(p, 1);
            int spans = x.pier(p, 2);
            x.turn(p, (lean + 1) % 3);
            x.build(p);
            due("built is undone", x.undo(), 1);
            due("turned yet", x.pier(p, 1), (lean + 1) % 3);
            due("spans", x.pier(p, 2), spans);
            due("turned is undone", x.undo(), 0);
            due("lean", x.pier(p, 1), lean);
        }
    }

    private static void actsAreForgotten() {
        PierYears x = with(CALM);
        x.build(0);
        x.turn(0, 2);
        x.seasons(24);
        due("24 at most", x.count(6), 24);
        for (int left = 23; left >= 0; left--) {
            due("undone", x.undo(), left);
        }
        due("no more", x.undo(), STATE);
        due("season", x.count(2), 0);
        due("spans stay", x.pier(0, 2), 5);
        due("lean stays", x.pier(0, 1), 2);
        x.seasons(20);
        x.seasons(20);
        due("24 again", x.count(6), 24);
        x.undo();
        due("season", x.count(2), 39);
    }

    private static void piersAreTold() {
        promise = 14;
        PierYears x = new PierYears();
        due("no coast", x.pier(0, 0), BAD);
        read(x, FIVE);
        int[][] told = {{2, 2, 5, 7, 7, 2}, {7, 0, 4, 3, 8, 1}, {9, 1, 9, 9, 12, 3}, {0, 2, 3, 3, 4, 1}, {4, 1, 2, 4, 3, 0}};
        for (int p = 0; p < 5; p++) {
            for (int what = 0; what < 6; what++) {
                due("pier " + p + ", " + what, x.pier(p, what), told[p][what]);
            }
        }
        due("what 6", x.pier(0, 6), BAD);
        due("what -1", x.pier(0, -1), BAD);
        due("pier 5", x.pier(5, 0), BAD);
        due("pier -1", x.pier(-1, 0), BAD);
        read(x, "l9,9,30,4,9;i1,0,3;i8,2,3;i5,0,0;");
        due("down beyond 0", x.pier(0, 3), 8);
        due("up beyond 9", x.pier(1, 3), 1);
        due("not more than spans", x.pier(0, 5), 3);
        due("no spans: the place", x.pier(2, 3), 5);
        due("no spans: nothing", x.pier(2, 4), 0);
        due("no spans: none", x.pier(2, 5), 0);
        due("take", x.pier(0, 4), (8 * 9 + 3 * 9) % 30);
        buildAll(x, 0, 9);
        due("12 down", x.pier(0, 3), 9);
    }

    private static void spansAreForetold() {
        promise = 15;
        PierYears x = new PierYears();
        due("no coast", x.ahead(0, 0, 0), BAD);
        read(x, FIVE);
        due("now", x.ahead(0, 0, 0), 5);
        due("now", x.ahead(0, 0, 1), 7);
        due("1", x.ahead(2, 1, 0), 6);
        due("2", x.ahead(1, 2, 0), 1);
        due("2", x.ahead(1, 2, 1), 6);
        due("60", x.ahead(1, 60, 0), 0);
        due("60", x.ahead(1, 60, 1), 7);
        due("61", x.ahead(1, 61, 0), BAD);
        due("-1", x.ahead(1, -1, 0), BAD);
        due("what 2", x.ahead(1, 1, 2), BAD);
        due("what -1", x.ahead(1, 1, -1), BAD);
        due("pier 5", x.ahead(5, 1, 0), BAD);
        due("nothing changes", x.count(2), 0);
        due("nothing changes", x.count(8), 23);
        x.seasons(1);
        due("from this season on", x.ahead(1, 1, 0), 1);
    }

    private static void pursesAreForetold() {
        promise = 16;
        PierYears x = new PierYears();
        due("no coast ahead of BAD", x.purse(-1), STATE);
        read(x, FIVE);
        due("now", x.purse(0), 0);
        due("1", x.purse(1), 34);
        due("5", x.purse(5), 134);
        due("60", x.purse(60), 166);
        due("61", x.purse(61), BAD);
        due("-1", x.purse(-1), BAD);
        due("nothing changes", x.count(4), 0);
        PierYears rich = with(RICH);
        pass(rich, 48);
        due("not full", rich.purse(20), 9860);
        due("full", rich.purse(21), 9999);
    }

    private static void piersGo() {
        promise = 17;
        PierYears x = new PierYears();
        due("no coast", x.gone(0), BAD);
        read(x, FIVE);
        int[] gone = {2, 4, 3, 3, 7};
        for (int p = 0; p < 5; p++) {
            due("pier " + p, x.gone(p), gone[p]);
        }
        due("pier 5", x.gone(5), BAD);
        due("pier -1", x.gone(-1), BAD);
        // STORMS of 4 in SEASONS 3, 8 and so on: the twelfth takes the twelfth span in SEASON 58
        read(x, "l1,1,9,1,9;p0,1,9;i0,1,0;");
        due("now", x.gone(1), 0);
        buildAll(x, 0, 3);
        due("59", x.gone(0), 59);
        x.build(0);
        due("not within 60", x.gone(0), NONE);
        x.seasons(4);
        due("60 from now", x.gone(0), 60);
        x.undo();
        x.undo();
        x.build(0);
        due("62 from now", x.gone(0), NONE);
        read(x, "l1,1,9,0,9;i0,1,1;");
        due("without storms", x.gone(0), NONE);
    }

    private static void piersAreAimed() {
        promise = 18;
        PierYears x = new PierYears();
        due("no coast", x.aim(0, 0, 1, 0), BAD);
        read(x, "l1,1,9,0,6;i2,1,4;i2,1,5;w7,1,0;");
        due("down", x.aim(0, 5, 7, 0), 0);
        due("how many", x.aim(0, 5, 7, 1), 3);
        due("straight", x.aim(0, 2, 7, 0), 1);
        due("up", x.aim(0, 9, 7, 0), 2);
        due("by none", x.aim(0, 3, 7, 0), NONE);
        due("by none", x.aim(0, 3, 7, 1), NONE);
        due("by none, two places up", x.aim(0, 6, 7, 0), NONE);
        due("one out", x.aim(2, 6, 1, 1), 1);
        due("of several the least", x.aim(0, 7, 5, 0), 0);
        due("of three the least", x.aim(0, 2, 10, 0), 0);
        due("all the iron", x.aim(0, 2, 10, 1), 6);
        due("iron is not enough", x.aim(0, 2, 11, 0), NONE);
        due("iron is not enough", x.aim(0, 2, 11, 1), NONE);
        due("as far already", x.aim(0, 2, 4, 1), 0);
        due("turned only", x.aim(0, 8, 4, 0), 0);
        due("farther already", x.aim(0, 2, 3, 0), NONE);
        due("farther already", x.aim(1, 2, 4, 1), NONE);
        due("place 10", x.aim(0, 10, 7, 0), BAD);
        due("place -1", x.aim(0, -1, 7, 0), BAD);
        due("out 0", x.aim(0, 1, 0, 0), BAD);
        due("out 21", x.aim(0, 1, 21, 0), BAD);
        due("out 20", x.aim(0, 1, 20, 0), NONE);
        due("what 2", x.aim(0, 1, 1, 2), BAD);
        due("what -1", x.aim(0, 1, 1, -1), BAD);
        due("pier 3", x.aim(3, 1, 1, 0), BAD);
        due("nothing changes", x.count(5), 6);
        PierYears rich = with(CALM);
        pass(rich, 24);
        rich.buy(20);
        due("out 20, much iron", rich.aim(0, 0, 20, 1), 16);
    }

    private static void yearsAreTaken() {
        promise = 19;
        PierYears x = new PierYears();
        due("no coast ahead of BAD", x.take(10, 0), STATE);
        read(x, FIVE);
        due("9, 9", x.take(9, 9), 12);
        due("3, 99", x.take(3, 99), 14);
        due("0, 1", x.take(0, 1), 4);
        due("no spans", x.take(9, 0), 0);
        due("place 10", x.take(10, 1), BAD);
        due("place -1", x.take(-1, 1), BAD);
        due("out 100", x.take(1, 100), BAD);
        due("out -1", x.take(1, -1), BAD);
        read(x, "l9,9,1,0,0;");
        due("round 1, without piers", x.take(9, 99), 0);
    }

    private static void ironIsGiven() {
        promise = 20;
        PierYears x = new PierYears();
        due("no coast ahead of BAD", x.give(-1, 9), STATE);
        read(x, FIVE);
        int[] one = {64, 6, 1, 0, 1, 1, 3};
        int[] six = {229, 6, 3, 1, 1, 1, 0};
        int[] order = {-1, -2, 0, 1, 2, 3, 4};
        for (int k = 0; k < 7; k++) {
            due("give(0, " + order[k] + ")", x.give(0, order[k]), 0);
            due("give(1, " + order[k] + ")", x.give(1, order[k]), one[k]);
            due("give(6, " + order[k] + ")", x.give(6, order[k]), six[k]);
        }
        due("-3", x.give(1, -3), BAD);
        due("5", x.give(1, 5), BAD);
        due("61", x.give(61, -1), BAD);
        due("-1", x.give(-1, -1), BAD);
        due("nothing changes", x.count(5), 6);
        x.seasons(1);
        due("the purse, not the gain", x.give(0, -1), 34);
        read(x, "l1,1,9,0,9;");
        due("no piers: purse", x.give(60, -1), 0);
        due("no piers: none", x.give(60, -2), 0);
        due("no piers: no such one", x.give(60, 0), NONE);
        due("BAD ahead of no such one", x.give(61, 0), BAD);
        // each span is 1 more up to 9, whichever PIER has it: the last has all
        read(x, "l0,1,30,0,4;i0,1,2;w5,1,2;");
        due("all", x.give(3, -1), 24);
        due("four", x.give(3, -2), 4);
        due("first: none", x.give(3, 0), 0);
        due("last: four", x.give(3, 1), 4);
        due("no such one", x.give(3, 2), NONE);
        // all is 0: the fewest
        read(x, "l0,0,9,0,4;i0,1,2;");
        due("nothing to be had", x.give(3, -2), 0);
    }

    private static void ironIsGivenAtTheLimits() {
        PierYears x = withLongPier();
        // it takes 15, and by one span more it would be 20, but there is no room; the other takes 25 by one more
        due("99 spans: none", x.give(1, 0), 0);
        due("99 spans: how much", x.give(1, -1), 1075 + 15 + 25);
        due("99 spans: how many", x.give(1, -2), 1);
        PierYears much = with("l0,1,30,0,0;i0,1,9;i0,1,9;");
        pass(much, 24);
        much.buy(20);
        due("nine of 20 iron", much.give(1, -2), 9);
        due("nine of 20 iron", much.give(1, -1), 24 * 18 - 100 + 27);
        PierYears rich = with("l2,5,30,0,9;i7,1,3;i7,1,3;i7,1,3;i7,1,3;w4,1,0;");
        pass(rich, 84);
        due("116 each", rich.count(4), 9744);
        due("full by none", rich.give(3, -2), 0);
        due("not full by none", rich.give(2, -2), 1);
        due("full by the last", rich.give(2, 4), 1);
        due("full by one", rich.give(2, -1), 9999);
    }

    private static void oneIsTurned() {
        promise = 21;
        PierYears x = new PierYears();
        due("no coast ahead of BAD", x.turning(-1, 9), STATE);
        read(x, FIVE);
        due("0: the first", x.turning(0, 0), 0);
        due("0: the first", x.turning(0, 1), 0);
        due("0: the purse", x.turning(0, 2), 0);
        due("1: which", x.turning(1, 0), 3);
        due("1: lean", x.turning(1, 1), 0);
        due("1: how much", x.turning(1, 2), 46);
        due("what 3", x.turning(1, 3), BAD);
        due("what -1", x.turning(1, -1), BAD);
        due("61", x.turning(61, 0), BAD);
        due("-1", x.turning(-1, 0), BAD);
        due("nothing changes", x.pier(3, 1), 2);
        read(x, "l1,0,30,0,0;i8,2,1;");
        due("worse than as it is", x.turning(1, 2), 8);
        due("straight", x.turning(1, 1), 1);
        read(x, "l1,0,30,0,0;i8,1,1;");
        due("up", x.turning(1, 1), 2);
        due("up: how much", x.turning(1, 2), 9);
        read(x, "l1,0,30,0,0;i7,1,1;");
        due("no farther up than one place", x.turning(1, 2), 8);
        read(x, "l1,0,30,0,0;w1,1,0;i0,1,1;w1,1,0;i0,1,1;");
        due("of several the first", x.turning(1, 0), 1);
        due("round about", x.turning(1, 1), 0);
        read(x, "l1,1,30,0,0;");
        for (int what = 0; what < 3; what++) {
            due("no piers", x.turning(1, what), NONE);
        }
    }

    private static void piersCross() {
        promise = 22;
        PierYears x = new PierYears();
        due("no coast ahead of BAD", x.cross(3), STATE);
        read(x, "l1,1,9,0,3;i0,2,9;i8,0,9;w5,1,0;c5,2,1;p3,1,3;");
        due("how many", x.cross(0), 2);
        due("the first", x.cross(1), 1);
        due("how far", x.cross(2), 4);
        due("what 3", x.cross(3), BAD);
        due("what -1", x.cross(-1), BAD);
        read(x, "l1,1,9,0,3;i0,1,9;i1,1,9;w3,0,2;c2,2,1;i5,1,1;");
        due("one pair, 1 and 2", x.cross(0), 1);
        due("the first", x.cross(1), 12);
        due("how far", x.cross(2), 2);
        read(x, "l1,1,9,0,3;i0,2,9;i1,1,0;i1,1,9;");
        due("where they begin is not out", x.cross(1), 2);
        due("one out", x.cross(2), 1);
        due("one out counts", x.cross(0), 1);
        read(x, "l1,1,9,0,3;i1,1,9;i1,2,9;");
        due("only where they begin", x.cross(0), 0);
        due("NONE", x.cross(1), NONE);
        due("NONE", x.cross(2), NONE);
        buildAll(x, 0, 1);
        due("not both so far", x.cross(0), 0);
        buildAll(x, 1, 1);
        due("once round about", x.cross(2), 10);
        read(x, "l1,1,9,0,3;");
        due("no piers", x.cross(0), 0);
        due("no piers", x.cross(1), NONE);
    }

    private static void whatFits() {
        promise = 23;
        PierYears x = new PierYears();
        x.row(0, 0, 20);
        due("no coast", x.fits(0, 0, 0, 1, 0), BAD);
        read(x, "l1,0,10,1,3;i4,2,2;w1,1,9;");
        // the STORMS are 1, 2, 3: what is taken is 6 and 1, 5 and 1, 1
        x.set(0, 3, 7);
        x.set(0, 4, 6);
        x.set(0, 5, 1);
        due("froms", x.fits(0, 0, 3, 3, 0), 1 << 4);
        due("froms by one season", x.fits(0, 0, 5, 1, 0), 1 << 8);
        due("leans", x.fits(0, 0, 3, 3, 1), 4);
        due("sorts by one season", x.fits(0, 0, 3, 1, 2), 62);
        due("sorts by two", x.fits(0, 0, 3, 2, 2), 1 << 1 | 1 << 4);
        due("sorts by three", x.fits(0, 0, 3, 3, 2), 1 << 1 | 1 << 4);
        due("long by one", x.fits(0, 0, 3, 1, 3), 1 << 2 | 1 << 12 | 1 << 22);
        due("long by three", x.fits(0, 0, 3, 3, 3), 1 << 2);
        due("the other: froms", x.fits(1, 0, 3, 3, 0), 2);
        due("the other: long", x.fits(1, 0, 3, 3, 3), (1 << 30) - (1 << 3));
        due("froms at the least", x.fits(1, 0, 4, 1, 0), 1);
        x.set(0, 6, 15);
        due("froms at the most", x.fits(1, 0, 6, 1, 0), 1 << 9);
        due("leans at the least", x.fits(0, 0, 7, 1, 1), 0);
        x.set(0, 7, 3);
        due("leans at the least", x.fits(0, 0, 7, 1, 1), 1);
        due("16", x.fits(0, 0, 4, 16, 0), 0);
        due("17", x.fits(0, 0, 0, 17, 0), BAD);
        due("0", x.fits(0, 0, 0, 0, 0), BAD);
        due("row 8", x.fits(0, 8, 0, 1, 0), BAD);
        due("row -1", x.fits(0, -1, 0, 1, 0), BAD);
        due("what 4", x.fits(0, 0, 0, 1, 4), BAD);
        due("what -1", x.fits(0, 0, 0, 1, -1), BAD);
        due("pier 2", x.fits(2, 0, 0, 1, 0), BAD);
        due("missing", x.fits(0, 1, -1, 1, 0), NULL);
        due("beyond", x.fits(0, 0, 5, 16, 0), PLACE);
        due("before", x.fits(0, 0, -1, 1, 0), PLACE);
        due("far", x.fits(0, 0, MOST, 16, 0), PLACE);
        due("nothing changes", x.count(8), 11);
        due("nothing changes", x.count(2), 0);
    }

    private static void piersBurn() {
        promise = 24;
        PierYears x = new PierYears();
        due("no coast ahead of BAD", x.fire(-1, 11, 2), STATE);
        read(x, "l0,1,30,0,0;i0,1,5;i0,1,3;");
        fraction(x, 0, 3, 1, 1);
        fraction(x, 1, 3, 91, 100);
        fraction(x, 3, 3, 91, 100);
        fraction(x, 4, 3, 7, 10);
        fraction(x, 5, 3, 7, 10);
        fraction(x, 6, 3, 49, 100);
        fraction(x, 8, 3, 49, 100);
        fraction(x, 9, 3, 0, 1);
        fraction(x, 8, 0, 1, 1);
        fraction(x, 1, 10, 0, 1);
        fraction(x, 0, 10, 1, 1);
        fraction(x, 8, 5, 1, 4);
        fraction(x, 8, 2, 16, 25);
        fraction(x, 200, 2, 0, 1);
        due("q 201", x.fire(201, 1, 0), BAD);
        due("q -1", x.fire(-1, 1, 0), BAD);
        due("c 11", x.fire(1, 11, 0), BAD);
        due("c -1", x.fire(1, -1, 0), BAD);
        due("what 2", x.fire(1, 1, 2), BAD);
        due("what -1", x.fire(1, 1, -1), BAD);
        due("nothing changes", x.count(8), 8);
        read(x, "l0,1,30,0,0;");
        fraction(x, 0, 5, 1, 1);
        fraction(x, 1, 5, 0, 1);
        read(x, FIVE);
        fraction(x, 34, 1, 59049, 100000);
        fraction(x, 1, 9, 40951, 100000);
    }

    private static void fraction(PierYears x, int q, int c, int above, int below) {
        due("above of fire(" + q + ", " + c + ")", x.fire(q, c, 0), above);
        due("below of fire(" + q + ", " + c + ")", x.fire(q, c, 1), below);
    }

    private static void decadesAreDrawn() {
        promise = 25;
        PierYears x = new PierYears();
        due("no coast ahead of BAD", x.drawn(-1, 0, 2), STATE);
        read(x, "l0,1,30,0,1;i0,1,9;w0,1,9;");
        due("none", x.drawn(0, 7, 0), 0);
        due("none", x.drawn(0, 7, 1), 18);
        // X is 33614: a span on PIER 0, a STORM of 4; then 564950498: no IRON, a STORM of 3
        due("1: purse", x.drawn(1, 2, 0), 19);
        due("1: spans", x.drawn(1, 2, 1), 14);
        due("2: purse", x.drawn(2, 2, 0), 33);
        due("2: spans", x.drawn(2, 2, 1), 10);
        // X is 16807: nothing is built, a STORM of 2
        due("odd: purse", x.drawn(1, 1, 0), 18);
        due("odd: spans", x.drawn(1, 1, 1), 15);
        due("seed 0", x.drawn(1, 0, 0), BAD);
        due("seed 1000000", x.drawn(1, 1000000, 0), BAD);
        due("n 61", x.drawn(61, 1, 0), BAD);
        due("n -1", x.drawn(-1, 1, 0), BAD);
        due("what 2", x.drawn(1, 1, 2), BAD);
        due("what -1", x.drawn(1, 1, -1), BAD);
        due("nothing changes", x.count(5), 1);
        due("nothing changes", x.count(8), 18);
        due("gone", x.drawn(60, 999999, 1), 0);
        read(x, FIVE);
        due("3", x.drawn(3, 999999, 0), 107);
        due("10", x.drawn(10, 999999, 0), 167);
        due("20", x.drawn(20, 123456, 0), 447);
        due("20: spans", x.drawn(20, 123456, 1), 1);
        due("60", x.drawn(60, 31337, 0), 635);
        read(x, "l0,1,30,0,1;r0,1,9;");
        due("a rusty one, even", x.drawn(1, 1, 1), 6);
        x.seasons(1);
        due("a rusty one, odd", x.drawn(1, 1, 1), 6);
        read(x, "l0,1,30,0,1;");
        due("no piers", x.drawn(60, 2, 0), 0);
        due("no piers", x.drawn(60, 2, 1), 0);
        PierYears longest = withLongPier();
        // X is 33614: PIER 0 has 99 already, wood loses 1, iron its 4
        due("99: none is built", longest.drawn(1, 2, 1), 98);
    }

    private static void imagesAreKept() {
        promise = 26;
        PierYears x = new PierYears();
        due("2", x.image(2), BAD);
        due("-1", x.image(-1), BAD);
        due("no coast", x.image(0), STATE);
        read(x, FIVE);
        x.seasons(1);
        due("0", x.image(0), 1);
        due("1", x.image(1), 1);
        due("acts stay", x.count(6), 1);
        due("it stays", x.count(4), 34);
        x.seasons(1);
        due("anew", x.image(1), 1);
        x.restore(1);
        due("the later", x.count(2), 2);
        x.restore(0);
        due("the earlier", x.count(2), 1);
    }

    private static void imagesAreRestored() {
        promise = 27;
        PierYears x = new PierYears();
        due("2", x.restore(2), BAD);
        due("-1", x.restore(-1), BAD);
        due("none was kept", x.restore(0), STATE);
        read(x, FIVE);
        x.seasons(1);
        x.image(1);
        due("none was kept", x.restore(0), STATE);
        x.build(0);
        x.turn(1, 1);
        x.seasons(3);
        read(x, "l9,8,7,6,5;w1,1,1;");
        due("restored", x.restore(1), 1);
        int[] counts = {0, 5, 1, 4, 34, 6, 0, 0, 16};
        for (int what = 0; what < 9; what++) {
            due("count(" + what + ")", x.count(what), counts[what]);
        }
        due("no act", x.undo(), STATE);
        due("the law", x.take(9, 9), 12);
        due("lean", x.pier(1, 1), 0);
        due("from", x.pier(1, 0), 7);
        due("kind", x.kind(2), 3);
        due("law, storms yet", x.purse(1), 68);
        x.build(0);
        due("again", x.restore(1), 1);
        due("no act again", x.undo(), STATE);
        due("the image stays as it was", x.pier(0, 2), 3);
        x.row(0, 0, 1);
        x.restore(1);
        due("rows stay", x.count(0), 1);
    }

    private static void kindsAreTold() {
        promise = 28;
        PierYears x = new PierYears();
        due("no coast", x.kind(0), BAD);
        read(x, FIVE);
        for (int p = 0; p < 5; p++) {
            due("pier " + p, x.kind(p), p + 1);
        }
        due("pier 5", x.kind(5), BAD);
        due("pier -1", x.kind(-1), BAD);
    }

    private static void piersAreTakenAs() {
        promise = 29;
        PierYears x = new PierYears();
        due("no coast", x.as(0, 0), BAD);
        read(x, FIVE);
        String[] kinds = {"01", "012", "013", "04", "045"};
        for (int p = 0; p < 5; p++) {
            for (int kind = 0; kind <= 5; kind++) {
                boolean isOne = kinds[p].indexOf('0' + kind) >= 0;
                due("pier " + p + " as " + kind, x.as(p, kind), isOne ? p : KIND);
                due("status", x.status(), isOne ? 0 : 3);
            }
        }
        due("kind 6", x.as(0, 6), BAD);
        due("kind -1", x.as(0, -1), BAD);
        due("pier 5", x.as(5, 0), BAD);
        due("pier -1", x.as(-1, 0), BAD);
    }

    private static void asksAreAnswered() {
        promise = 30;
        PierYears x = new PierYears();
        due("no coast", x.ask(0, 0), BAD);
        read(x, FIVE);
        answer(x, 0, 0, 7, 11, 10, 21, 20);
        answer(x, 0, 1, 5, 21, 20);
        answer(x, 1, 0, -17, 12, 11, 10, 24, 21, 20);
        answer(x, 1, 1, 10, 24, 21, 20);
        answer(x, 2, 0, 9 + 2 + 9 - 1000, 11, 10, 22, 21, 20);
        answer(x, 2, 1, 2 + 9 - 1000, 22, 21, 20);
        answer(x, 3, 0, -100, 13, 10);
        answer(x, 3, 1, 103, 23, 20, 13, 10);
        answer(x, 4, 0, -192, 14, 13, 10);
        answer(x, 4, 1, 196, 23, 20, 14, 13, 10);
        due("what 2", x.ask(0, 2), BAD);
        due("what -1", x.ask(0, -1), BAD);
        due("pier 5", x.ask(5, 0), BAD);
        due("pier -1", x.ask(-1, 0), BAD);
        due("the trace stays", x.trace(0), 23);
        x.build(0);
        answer(x, 0, 1, 6, 21, 20);
    }

    private static void answer(PierYears x, int pier, int what, int want, int... bodies) {
        due("ask(" + pier + ", " + what + ")", x.ask(pier, what), want);
        for (int i = 0; i <= bodies.length; i++) {
            due("trace " + i + " of ask(" + pier + ", " + what + ")", x.trace(i), i < bodies.length ? bodies[i] : NONE);
        }
    }

    private static void theTraceIsTold() {
        promise = 31;
        PierYears x = with(FIVE);
        due("none yet", x.trace(0), NONE);
        x.ask(4, 1);
        due("the first", x.trace(0), 23);
        due("the last", x.trace(4), 10);
        due("beyond", x.trace(5), NONE);
        due("beyond 16", x.trace(16), NONE);
        due("-1", x.trace(-1), NONE);
        due("far", x.trace(MOST), NONE);
        due("far", x.trace(LEAST), NONE);
        read(x, CALM);
        due("a new coast leaves it", x.trace(0), 23);
    }

    private static void allIsCounted() {
        promise = 32;
        PierYears x = with(FIVE);
        x.row(3, 0, 0);
        x.row(5, 0, 9);
        x.row(5, 1, 9);
        x.seasons(1);
        x.build(4);
        x.feed('l');
        int[] counts = {2, 5, 1, 4, 34, 5, 2, 1, 17};
        for (int what = 0; what < 9; what++) {
            due("count(" + what + ")", x.count(what), counts[what]);
        }
        due("9", x.count(9), BAD);
        due("-1", x.count(-1), BAD);
    }

    private static void theStatusIsTold() {
        promise = 33;
        PierYears x = new PierYears();
        due("none", x.status(), 0);
        status(x, x.row(0, 0, -1), 4);
        status(x, x.row(0, 3, 0), 4);
        status(x, x.row(0, 0, 3), 0);
        status(x, x.set(0, 3, 0), 2);
        status(x, x.set(8, 0, 0), 2);
        status(x, x.count(0), 2);
        status(x, x.set(0, 2, 0), 0);
        status(x, x.set(1, 2, 0), 1);
        status(x, x.seasons(1), 1);
        status(x, x.row(1, 1, 3), 0);
        status(x, x.copy(0, 0, 1, 0, 1), 5);
        status(x, x.copy(0, 0, 8, 0, 1), 5);
        status(x, x.copy(0, 0, 0, 0, 1), 0);
        status(x, x.drop(2), 1);
        status(x, x.drop(8), 1);
        status(x, x.drop(1), 0);
        status(x, x.drop(1), 1);
        status(x, x.as(0, 0), 1);
        status(x, read(x, FIVE), 1);
        status(x, x.as(0, 2), 3);
        status(x, x.as(0, 6), 3);
        status(x, x.ask(0, 0), 3);
        status(x, x.as(0, 1), 0);
        status(x, x.fits(0, 7, 0, 1, 0), 1);
        status(x, x.fits(0, 0, 0, 4, 0), 2);
        status(x, x.fits(0, 0, 0, 17, 0), 2);
        status(x, x.undo(), 2);
        status(x, x.fits(0, 0, 0, 3, 0), 0);
    }

    /** The call has been made, as an argument, ahead of the look at the status. */
    private static void status(PierYears x, int answer, int want) {
        due("status behind an answer of " + answer, x.status(), want);
    }
}
