/** Promises 9 to 14, sentence by sentence: seasons, storms, spans, leans, iron, what is undone, what a pier is. */
public final class EdgesOfActs {
    private static final int[] NOT_1_TO_24 = {0, 25, 26, -1, -24, Edge.LEAST, Edge.MOST};
    private static final String SORTS = "icrwp";

    public static void main(String[] args) {
        Edge.run(EdgesOfActs.class);
    }

    /** What a STORM takes of one of a SORT, told once more. */
    private static int taken(char sort, int storm, boolean isEven) {
        switch (sort) {
            case 'i':
                return storm;
            case 'c':
                return new int[] {0, 0, 1, 1, 2}[storm];
            case 'r':
                return isEven ? storm + 1 : storm;
            case 'w':
                return storm == 0 ? 0 : 1;
            default:
                return storm == 4 ? 1 : 0;
        }
    }

    private static void dueCounts(Told x, int season, int purse, int iron, int spans) {
        x.due(x.count(2), season);
        x.due(x.count(4), purse);
        x.due(x.count(5), iron);
        x.due(x.count(8), spans);
    }

    // ---- seasons

    static void promise09_oneTo24() {
        Edge.says("n SEASONS (1 to 24), an ACT each: PURSE then.");
        for (int n = 1; n <= 24; n++) {
            Told x = Edge.with(Edge.CALM);
            x.due(x.seasons(n), 20 * n);
            x.due(x.count(2), n);
            x.due(x.count(6), n);
        }
        Told x = Edge.with(Edge.CALM);
        for (int n : NOT_1_TO_24) {
            x.due(x.seasons(n), Edge.BAD);
            dueCounts(x, 0, 0, 9, 4);
            x.due(x.count(6), 0);
        }
    }

    static void promise09_noCoastIsAheadOfBad() {
        Edge.says("STATE: no COAST (ahead of BAD)");
        Told x = new Told();
        x.due(x.seasons(1), Edge.STATE);
        for (int n : NOT_1_TO_24) {
            x.due(x.seasons(n), Edge.STATE);
        }
        x.read(Edge.BARE);
        x.due(x.seasons(1), 0);
        x.due(x.seasons(0), Edge.BAD);
    }

    static void promise09_toSeason999() {
        Edge.says("FULL: beyond SEASON 999.");
        for (int n = 1; n <= 24; n++) {
            Told x = Edge.inSeason(999 - n, Edge.BARE);
            x.due(x.seasons(Math.min(24, n + 1)), n == 24 ? 0 : Edge.FULL);
            x.due(x.count(2), n == 24 ? 999 : 999 - n);
            x.due(x.seasons(n), n == 24 ? Edge.FULL : 0);
            x.due(x.count(2), 999);
            x.due(x.seasons(1), Edge.FULL);
            x.due(x.count(2), 999);
        }
    }

    static void promise09_beyondSeason999NoneAreDone() {
        Edge.says("FULL: beyond SEASON 999.", "What is refused, or found, changes nothing but status().");
        Told x = Edge.inSeason(990, "l0,1,30,1,9;w0,1,9;");
        x.buildAll(0, 5);
        int purse = x.count(4);
        x.due(x.seasons(10), Edge.FULL);
        dueCounts(x, 990, purse, 4, 5);
        x.due(x.count(6), 24);
        x.due(x.undo(), 23);
        x.due(x.pier(0, 2), 4);
    }

    static void promise09_badIsAheadOfFull() {
        Edge.says("BAD; STATE: no COAST (ahead of BAD); FULL: beyond SEASON 999.");
        Told x = Edge.inSeason(999, Edge.BARE);
        for (int n : NOT_1_TO_24) {
            x.due(x.seasons(n), Edge.BAD);
        }
        x.due(x.seasons(24), Edge.FULL);
        x.undo();
        x.due(x.seasons(2), Edge.FULL);
        x.due(x.seasons(1), 0);
    }

    static void promise09_thePurseIs9999AtMost() {
        Edge.says("PURSE is what all ENDS TAKE, together, more (9999 at most)");
        // 33 are taken in each SEASON: 303 times that is 9999
        Told exact = Edge.inSeason(302, "l0,1,30,0,0;i0,1,9;w0,1,9;c0,1,9;p0,1,6;");
        exact.due(exact.count(4), 9966);
        exact.due(exact.seasons(1), 9999);
        exact.due(exact.seasons(1), 9999);
        Told above = Edge.inSeason(68, Edge.RICH);
        above.due(above.count(4), 9860);
        above.due(above.seasons(1), 9999);
        above.due(above.seasons(24), 9999);
        above.due(above.count(2), 93);
    }

    static void promise09_thePurseIsFirstThenTheStorm() {
        Edge.says("A SEASON: PURSE is what all ENDS TAKE, together, more (9999 at most); then the STORM takes of all PIERS; SEASON is 1 more.");
        Told x = Edge.with("l0,1,30,4,0;i0,1,5;i0,1,3;");
        x.due(x.seasons(1), 8);
        dueCounts(x, 1, 8, 0, 1);
        // the STORM of SEASON 1 is 3
        x.due(x.seasons(1), 9);
        dueCounts(x, 2, 9, 0, 0);
        x.due(x.seasons(24), 9);
    }

    static void promise09_theStormOfASeason() {
        Edge.says("The STORM of a SEASON t (0 on) is what is left over of t and 1, times GALE, by 5.");
        for (int gale = 0; gale <= 9; gale++) {
            Told x = Edge.with("l0,0,1," + gale + ",0;");
            for (int t = 0; t <= 10; t++) {
                x.due(x.count(3), (t + 1) * gale % 5);
                x.seasons(1);
            }
        }
        Told late = Edge.inSeason(998, "l0,0,1,9,0;");
        late.due(late.count(3), 999 * 9 % 5);
        late.seasons(1);
        late.due(late.count(3), 0);
    }

    static void promise09_whatEachStormTakes() {
        Edge.says("of one of iron as many spans as the STORM; of cast iron half of that (cut);",
            "of a rusty one as of iron, and 1 more in SEASONS that are even; of one of wood 1, if the STORM is above 0;",
            "of one on piles so, but only if the STORM is 4", "All that is divided is cut towards 0");
        // by GALE 1 the STORMS are 1, 2, 3, 4, 0 twice: each in a SEASON that is even and in one that is odd
        for (char sort : SORTS.toCharArray()) {
            for (int t = 0; t < 10; t++) {
                Told x = Edge.with("l0,0,1,1,9;" + sort + "0,1,9;");
                x.pass(t);
                x.buildAll(0, 9);
                int spans = x.pier(0, 2);
                int storm = (t + 1) % 5;
                x.due(x.pier(0, 5), taken(sort, storm, t % 2 == 0));
                x.seasons(1);
                x.due(x.pier(0, 2), spans - taken(sort, storm, t % 2 == 0));
            }
        }
    }

    static void promise09_noneAreBelow0() {
        Edge.says("(none are below 0)");
        for (char sort : SORTS.toCharArray()) {
            for (int spans = 0; spans <= 6; spans++) {
                Told x = Edge.with("l0,0,1,4,0;" + sort + "0,1," + spans + ";");
                int left = Math.max(0, spans - taken(sort, 4, true));
                x.seasons(1);
                x.due(x.pier(0, 2), left);
                x.seasons(24);
                x.due(Math.min(0, x.pier(0, 2)), 0);
            }
        }
    }

    static void promise09_aRustyOneWithoutAStorm() {
        Edge.says("of a rusty one as of iron, and 1 more in SEASONS that are even");
        for (int gale = 0; gale <= 5; gale += 5) {
            Told x = Edge.with("l0,0,1," + gale + ",0;r0,1,3;");
            int[] left = {2, 2, 1, 1, 0, 0, 0};
            for (int spans : left) {
                x.seasons(1);
                x.due(x.pier(0, 2), spans);
            }
        }
    }

    static void promise09_aCoastWithoutPiers() {
        Edge.says("n SEASONS (1 to 24), an ACT each: PURSE then.");
        Told x = Edge.with("l9,9,30,9,9;");
        x.due(x.seasons(24), 0);
        dueCounts(x, 24, 0, 9, 0);
        x.due(x.count(6), 24);
        x.due(x.undo(), 23);
        x.due(x.count(2), 23);
    }

    // ---- build

    static void promise10_piersThatAreThere() {
        Edge.says("A span is built: SPANS then. BAD; STATE: no IRON; FULL: it has 99.");
        Told x = Edge.with(Edge.FIVE);
        int[] spans = {5, 4, 9, 3, 2};
        for (int pier = 0; pier < 5; pier++) {
            x.due(x.build(pier), spans[pier] + 1);
            x.due(x.count(5), 5 - pier);
            x.due(x.count(6), pier + 1);
        }
        for (int pier : new int[] {-1, 5, 6, Edge.LEAST, Edge.MOST}) {
            x.due(x.build(pier), Edge.BAD);
        }
        dueCounts(x, 0, 0, 1, 28);
        x.read("l0,0,1,0,9;i0,1,1;");
        x.due(x.build(1), Edge.BAD);
        x.read(Edge.BARE);
        x.due(x.build(0), Edge.BAD);
    }

    static void promise10_toTheLastIron() {
        Edge.says("STATE: no IRON", "a span is built (IRON is 1 less, SPANS 1 more)");
        for (int iron = 0; iron <= 9; iron++) {
            Told x = Edge.with("l0,0,1,0," + iron + ";i0,1,0;w0,1,9;");
            for (int k = 1; k <= iron; k++) {
                x.due(x.build(0), k);
                x.due(x.count(5), iron - k);
            }
            x.due(x.build(0), Edge.STATE);
            x.due(x.build(1), Edge.STATE);
            dueCounts(x, 0, 0, 0, 9 + iron);
            x.due(x.count(6), iron);
        }
    }

    static void promise10_to99Spans() {
        Edge.says("FULL: it has 99.");
        Told x = Edge.withLongPier(98, 2);
        x.due(x.pier(0, 2), 98);
        x.due(x.build(0), 99);
        x.due(x.build(0), Edge.FULL);
        x.due(x.count(5), 1);
        x.due(x.pier(0, 2), 99);
        x.due(x.build(1), 5);
        x.due(x.count(5), 0);
    }

    static void promise10_badThenStateThenFull() {
        Edge.says("BAD; STATE: no IRON; FULL: it has 99.");
        Told x = Edge.withLongPier(99, 0);
        x.due(x.pier(0, 2), 99);
        x.due(x.count(5), 0);
        x.due(x.build(0), Edge.STATE);
        x.due(x.build(2), Edge.BAD);
        x.due(x.build(-1), Edge.BAD);
        x.buy(1);
        x.due(x.build(0), Edge.FULL);
        x.due(x.build(2), Edge.BAD);
    }

    // ---- turn

    static void promise11_leansAre0To2() {
        Edge.says("A PIER is turned: how it LEANED. BAD; STATE: it does so.");
        for (int from = 0; from <= 2; from++) {
            for (int to = 0; to <= 2; to++) {
                Told x = Edge.with("l0,0,1,0,0;i5," + from + ",3;");
                x.due(x.turn(0, to), from == to ? Edge.STATE : from);
                x.due(x.pier(0, 1), to);
                x.due(x.pier(0, 3), new int[] {2, 5, 8}[to]);
                x.due(x.pier(0, 0), 5);
                x.due(x.pier(0, 2), 3);
                x.due(x.count(6), from == to ? 0 : 1);
            }
        }
    }

    static void promise11_leansBeside() {
        Edge.says("BAD; STATE: it does so.");
        Told x = Edge.with(Edge.FIVE);
        for (int lean : new int[] {-1, 3, 4, Edge.LEAST, Edge.MOST}) {
            x.due(x.turn(0, lean), Edge.BAD);
            x.due(x.pier(0, 1), 2);
        }
        x.due(x.count(6), 0);
    }

    static void promise11_piersThatAreThere() {
        Edge.says("BAD; STATE: it does so.");
        Told x = Edge.with(Edge.FIVE);
        int[] leans = {2, 0, 1, 2, 1};
        for (int pier = 0; pier < 5; pier++) {
            x.due(x.turn(pier, leans[pier]), Edge.STATE);
            x.due(x.turn(pier, (leans[pier] + 1) % 3), leans[pier]);
        }
        for (int pier : new int[] {-1, 5, Edge.LEAST, Edge.MOST}) {
            x.due(x.turn(pier, 0), Edge.BAD);
            x.due(x.turn(pier, 3), Edge.BAD);
        }
        x.due(x.count(6), 5);
        dueCounts(x, 0, 0, 6, 23);
        x.read(Edge.BARE);
        x.due(x.turn(0, 0), Edge.BAD);
    }

    // ---- buy

    static void promise12_oneTo20() {
        Edge.says("n IRON (1 to 20) is bought: IRON then.", "IRON is bought (each for 5 of PURSE; 99 at most)");
        for (int n = 1; n <= 20; n++) {
            Told x = Edge.inSeason(6, Edge.CALM);
            x.due(x.buy(n), 9 + n);
            dueCounts(x, 6, 120 - 5 * n, 9 + n, 4);
            x.due(x.count(6), 7);
        }
        Told x = Edge.inSeason(24, Edge.CALM);
        for (int n : new int[] {0, 21, 22, -1, Edge.LEAST, Edge.MOST, Edge.MOST / 5 + 1}) {
            x.due(x.buy(n), Edge.BAD);
        }
        dueCounts(x, 24, 480, 9, 4);
    }

    static void promise12_noCoastIsAheadOfBad() {
        Edge.says("STATE: no COAST (ahead of BAD), PURSE is not enough");
        Told x = new Told();
        for (int n : new int[] {1, 20, 0, 21, Edge.LEAST, Edge.MOST}) {
            x.due(x.buy(n), Edge.STATE);
        }
        x.read(Edge.CALM);
        x.due(x.buy(0), Edge.BAD);
    }

    static void promise12_thePurseIsJustEnough() {
        Edge.says("PURSE is not enough", "each for 5 of PURSE");
        // PIERS take 1, 2, 3, 4 and so on: PURSE is any number
        for (int purse = 0; purse <= 9; purse++) {
            Told x = Edge.inSeason(1, "l0,1,30,0,0;i0,1," + purse + ";");
            x.due(x.count(4), purse);
            x.due(x.buy(2), Edge.STATE);
            x.due(x.buy(1), purse < 5 ? Edge.STATE : 1);
            dueCounts(x, 1, purse < 5 ? purse : purse - 5, purse < 5 ? 0 : 1, purse);
        }
        Told hundred = Edge.inSeason(5, Edge.CALM);
        hundred.due(hundred.buy(20), 29);
        hundred.due(hundred.count(4), 0);
        hundred.due(hundred.buy(1), Edge.STATE);
        Told ninetyNine = Edge.inSeason(11, "l0,1,30,0,0;i0,1,9;");
        ninetyNine.due(ninetyNine.count(4), 99);
        ninetyNine.due(ninetyNine.buy(20), Edge.STATE);
        ninetyNine.due(ninetyNine.buy(19), 19);
        ninetyNine.due(ninetyNine.count(4), 4);
    }

    static void promise12_ironIs99AtMost() {
        Edge.says("FULL: there would be more than 99.");
        for (int n = 1; n <= 20; n++) {
            Told x = Edge.inSeason(40, Edge.CALM);
            x.buyAll(90 - n);
            x.due(x.count(5), 99 - n);
            x.due(x.buy(Math.min(20, n + 1)), n == 20 ? 99 : Edge.FULL);
            x.due(x.buy(n), n == 20 ? Edge.FULL : 99);
            x.due(x.count(5), 99);
            x.due(x.count(4), 800 - 450);
            x.due(x.buy(1), Edge.FULL);
        }
        Told x = Edge.withIron(99);
        x.due(x.build(0), 5);
        x.due(x.buy(2), Edge.FULL);
        x.due(x.buy(1), 99);
    }

    static void promise12_badThenStateThenFull() {
        Edge.says("BAD; STATE: no COAST (ahead of BAD), PURSE is not enough; FULL: there would be more than 99.");
        Told poor = Edge.with(Edge.CALM);
        poor.due(poor.buy(0), Edge.BAD);
        poor.due(poor.buy(21), Edge.BAD);
        poor.due(poor.buy(1), Edge.STATE);
        // IRON 99, PURSE 30
        Told x = Edge.withIron(99);
        x.due(x.count(4), 30);
        x.due(x.buy(21), Edge.BAD);
        x.due(x.buy(0), Edge.BAD);
        x.due(x.buy(7), Edge.STATE);
        x.due(x.buy(6), Edge.FULL);
        x.due(x.count(5), 99);
        x.due(x.count(4), 30);
    }

    // ---- undo

    static void promise13_noneCanBeUndone() {
        Edge.says("STATE: none.");
        Told x = new Told();
        x.due(x.undo(), Edge.STATE);
        x.read(Edge.FIVE);
        x.due(x.undo(), Edge.STATE);
        x.seasons(0);
        x.build(5);
        x.turn(0, 2);
        x.buy(1);
        x.due(x.undo(), Edge.STATE);
        x.build(0);
        x.due(x.undo(), 0);
        x.due(x.undo(), Edge.STATE);
    }

    static void promise13_theLatestFirst() {
        Edge.says("each can be undone, the latest first", "The latest ACT is undone: how many can be undone yet.");
        Told x = Edge.with(Edge.FIVE);
        x.seasons(1);
        x.build(1);
        x.turn(1, 2);
        x.buy(6);
        x.seasons(1);
        x.due(x.count(6), 5);
        x.due(x.undo(), 4);
        dueCounts(x, 1, 4, 11, 17);
        x.due(x.undo(), 3);
        dueCounts(x, 1, 34, 5, 17);
        x.due(x.pier(1, 1), 2);
        x.due(x.undo(), 2);
        x.due(x.pier(1, 1), 0);
        dueCounts(x, 1, 34, 5, 17);
        x.due(x.undo(), 1);
        dueCounts(x, 1, 34, 6, 16);
        x.due(x.undo(), 0);
        dueCounts(x, 0, 0, 6, 23);
    }

    static void promise13_24AreKept() {
        Edge.says("ACTS (24 at most are kept, of more the oldest is forgotten");
        Told x = Edge.with(Edge.CALM);
        x.build(0);
        x.seasons(23);
        x.due(x.count(6), 24);
        for (int left = 23; left >= 0; left--) {
            x.due(x.undo(), left);
        }
        dueCounts(x, 0, 0, 9, 4);
        x.due(x.undo(), Edge.STATE);
    }

    static void promise13_oneMoreForgetsTheOldest() {
        Edge.says("of more the oldest is forgotten");
        Told x = Edge.with(Edge.CALM);
        x.build(0);
        x.seasons(23);
        x.turn(0, 2);
        x.due(x.count(6), 24);
        for (int left = 23; left >= 0; left--) {
            x.due(x.undo(), left);
        }
        dueCounts(x, 0, 0, 8, 5);
        x.due(x.pier(0, 1), 1);
        x.due(x.undo(), Edge.STATE);
        x.due(x.count(6), 0);
    }

    static void promise13_manyMoreForgetTheOldest() {
        Edge.says("of more the oldest is forgotten");
        for (int more = 1; more <= 24; more++) {
            Told x = Edge.with(Edge.CALM);
            x.seasons(24);
            x.seasons(more);
            x.due(x.count(6), 24);
            for (int left = 23; left >= 0; left--) {
                x.due(x.undo(), left);
                x.due(x.count(2), more + left);
            }
            x.due(x.undo(), Edge.STATE);
            x.due(x.count(4), 20 * more);
        }
    }

    static void promise13_actsBehindUndoing() {
        Edge.says("The latest ACT is undone: how many can be undone yet.");
        Told x = Edge.with(Edge.CALM);
        x.seasons(24);
        x.undo();
        x.undo();
        x.build(0);
        x.due(x.count(6), 23);
        x.turn(0, 0);
        x.due(x.count(6), 24);
        x.buy(1);
        x.due(x.count(6), 24);
        x.due(x.undo(), 23);
        x.due(x.undo(), 22);
        x.due(x.undo(), 21);
        dueCounts(x, 22, 440, 9, 4);
        x.due(x.undo(), 20);
        x.due(x.count(2), 21);
    }

    static void promise13_aSeasonAtTheLimits() {
        Edge.says("each can be undone");
        Told rich = Edge.inSeason(69, Edge.RICH);
        rich.due(rich.count(4), 9999);
        rich.due(rich.undo(), 23);
        rich.due(rich.count(4), 9860);
        Told last = Edge.inSeason(999, Edge.BARE);
        last.due(last.undo(), 23);
        last.due(last.count(2), 998);
        // a STORM of 4 takes 2 of 2, 4 of 9, 1 of 1
        Told poor = Edge.with("l0,0,1,4,0;i0,1,2;i0,1,9;w0,1,1;p0,1,0;");
        poor.seasons(1);
        poor.due(poor.count(8), 5);
        poor.undo();
        for (int pier = 0; pier < 4; pier++) {
            poor.due(poor.pier(pier, 2), new int[] {2, 9, 1, 0}[pier]);
        }
    }

    static void promise13_ironAndSpansAtTheLimits() {
        Edge.says("each can be undone");
        Told full = Edge.withIron(99);
        full.due(full.undo(), 23);
        full.due(full.count(5), 89);
        full.due(full.count(4), 80);
        Told high = Edge.withLongPier(99, 0);
        high.due(high.undo(), 23);
        high.due(high.pier(0, 2), 98);
        high.due(high.count(5), 1);
    }

    static void promise13_theFirstAndTheLastPier() {
        Edge.says("a PIER is turned (it LEANS otherwise)", "each can be undone");
        Told x = Edge.with(Edge.FIVE);
        x.turn(0, 0);
        x.turn(4, 0);
        x.build(0);
        x.build(4);
        x.due(x.undo(), 3);
        x.due(x.pier(4, 2), 2);
        x.due(x.pier(0, 2), 6);
        x.due(x.undo(), 2);
        x.due(x.pier(0, 2), 5);
        x.due(x.undo(), 1);
        x.due(x.pier(4, 1), 1);
        x.due(x.pier(0, 1), 0);
        x.due(x.undo(), 0);
        x.due(x.pier(0, 1), 2);
    }

    // ---- pier

    static void promise14_whatIs0To5() {
        Edge.says("0 FROM, 1 LEAN, 2 SPANS, 3 the PLACE of its END, 4 the TAKE there, 5 how many spans the STORM");
        Told x = Edge.with(Edge.FIVE);
        int[][] told = {{2, 2, 5, 7, 7, 2}, {7, 0, 4, 3, 8, 1}, {9, 1, 9, 9, 12, 3}, {0, 2, 3, 3, 4, 1}, {4, 1, 2, 4, 3, 0}};
        for (int pier = 0; pier < 5; pier++) {
            for (int what = 0; what <= 5; what++) {
                x.due(x.pier(pier, what), told[pier][what]);
            }
            for (int what : new int[] {-1, 6, 7, Edge.LEAST, Edge.MOST}) {
                x.due(x.pier(pier, what), Edge.BAD);
            }
        }
    }

    static void promise14_piersThatAreThere() {
        Edge.says("PIERS 0 .. 4, 5 at most", "BAD (a number is not as told; there is no such thing)");
        String text = Edge.BARE;
        for (int piers = 0; piers <= 5; piers++) {
            Told x = Edge.with(text);
            for (int pier = 0; pier < 6; pier++) {
                x.due(x.pier(pier, 0), pier < piers ? pier : Edge.BAD);
            }
            x.due(x.pier(-1, 0), Edge.BAD);
            x.due(x.pier(Edge.LEAST, 0), Edge.BAD);
            x.due(x.pier(Edge.MOST, 0), Edge.BAD);
            text += "i" + piers + ",1,1;";
        }
    }

    static void promise14_tenPlacesRoundAbout() {
        Edge.says("there are ten PLACES, round about (0 beside 9)",
            "goes one place down the coast by each span, 1 straight out, 2 one place up");
        for (int from = 0; from <= 9; from++) {
            for (int spans = 0; spans <= 9; spans++) {
                String ends = from + ",0," + spans + ";i" + from + ",1," + spans + ";i" + from + ",2," + spans + ";";
                Told x = Edge.with("l0,0,1,0,0;i" + ends);
                x.due(x.pier(0, 3), (from + 10 - spans) % 10);
                x.due(x.pier(1, 3), from);
                x.due(x.pier(2, 3), (from + spans) % 10);
            }
        }
    }

    static void promise14_placesFarOut() {
        Edge.says("Its END is as far OUT as it has SPANS, at the PLACE to which it comes so from FROM.");
        Told x = Edge.withLongPier(99, 0);
        int[] places = {1, 0, 9};
        for (int lean = 0; lean <= 2; lean++) {
            x.turn(0, lean);
            x.due(x.pier(0, 3), places[lean]);
            x.due(x.pier(0, 4), 99 * 5 % 30);
        }
        Told ten = Edge.with("l0,0,1,0,2;i3,0,9;i3,2,9;");
        ten.due(ten.pier(0, 3), 4);
        ten.due(ten.pier(1, 3), 2);
        ten.build(0);
        ten.build(1);
        ten.due(ten.pier(0, 3), 3);
        ten.due(ten.pier(1, 3), 3);
    }

    static void promise14_nothingIsTakenWithoutSpans() {
        Edge.says("0, if it has no SPANS");
        for (int from = 0; from <= 9; from++) {
            Told x = Edge.with("l1,0,30,0,1;i" + from + ",1,0;");
            x.due(x.pier(0, 3), from);
            x.due(x.pier(0, 4), 0);
            x.due(x.seasons(1), 0);
            x.build(0);
            x.due(x.pier(0, 4), from);
            x.due(x.seasons(1), from);
        }
    }

    static void promise14_whatIsLeftOverByRound() {
        Edge.says("The TAKE there: PLACE times ALONG, and SPANS times OUT, what is left over by ROUND");
        for (int round = 1; round <= 30; round++) {
            Told x = Edge.with("l9,9," + round + ",0,0;i9,1,9;w3,2,4;");
            x.due(x.pier(0, 4), 162 % round);
            x.due(x.pier(1, 4), (7 * 9 + 4 * 9) % round);
        }
    }

    static void promise14_notMoreThanSpans() {
        Edge.says("5 how many spans the STORM of this SEASON would take (not more than SPANS)");
        for (char sort : SORTS.toCharArray()) {
            for (int spans = 0; spans <= 6; spans++) {
                Told x = Edge.with("l0,0,1,4,0;" + sort + "0,1," + spans + ";");
                x.due(x.pier(0, 5), Math.min(spans, taken(sort, 4, true)));
                x.due(x.pier(0, 2), spans);
            }
        }
    }
}
