/** Promises 15 to 22, sentence by sentence: what is foretold, aimed at, given, turned, and what crosses. */
public final class EdgesOfForetold {
    private static final int[] NOT_0_TO_60 = {-1, 61, 62, -60, Edge.LEAST, Edge.MOST};
    private static final int[] NO_PIERS_OF_FIVE = {-1, 5, 6, Edge.LEAST, Edge.MOST};

    public static void main(String[] args) {
        Edge.run(EdgesOfForetold.class);
    }

    // ---- ahead

    static void promise15_d0To60() {
        Edge.says("FORETOLD (nothing changes), d SEASONS from now (0 to 60)");
        Told x = Edge.with("l3,4,17,1,9;i2,2,9;c7,0,9;r9,1,9;w0,2,9;p4,1,9;");
        for (int d : new int[] {0, 1, 2, 3, 5, 9, 10, 44, 45, 59, 60}) {
            Told later = Edge.inSeason(d, "l3,4,17,1,9;i2,2,9;c7,0,9;r9,1,9;w0,2,9;p4,1,9;");
            for (int pier = 0; pier < 5; pier++) {
                x.due(x.ahead(pier, d, 0), later.pier(pier, 2));
                x.due(x.ahead(pier, d, 1), later.pier(pier, 3));
            }
        }
        for (int d : NOT_0_TO_60) {
            x.due(x.ahead(0, d, 0), Edge.BAD);
            x.due(x.ahead(0, d, 1), Edge.BAD);
        }
    }

    static void promise15_spansOrPlace() {
        Edge.says("SPANS (what = 0), PLACE (1). BAD.");
        Told x = Edge.with("l0,0,1,4,0;i9,2,9;");
        x.due(x.ahead(0, 0, 0), 9);
        x.due(x.ahead(0, 0, 1), 8);
        x.due(x.ahead(0, 1, 0), 5);
        x.due(x.ahead(0, 1, 1), 4);
        for (int what : new int[] {-1, 2, 3, Edge.LEAST, Edge.MOST}) {
            x.due(x.ahead(0, 0, what), Edge.BAD);
        }
    }

    static void promise15_piersThatAreThere() {
        Edge.says("SPANS (what = 0), PLACE (1). BAD.");
        Told x = Edge.with(Edge.FIVE);
        x.due(x.ahead(0, 0, 0), 5);
        x.due(x.ahead(4, 0, 0), 2);
        for (int pier : NO_PIERS_OF_FIVE) {
            x.due(x.ahead(pier, 0, 0), Edge.BAD);
        }
        x.read(Edge.BARE);
        x.due(x.ahead(0, 0, 0), Edge.BAD);
    }

    static void promise15_withoutSpansItIsWhereItBegins() {
        Edge.says("SPANS of one; the PLACE of its END", "(none are below 0)");
        Told x = Edge.with("l0,0,1,4,0;i3,0,4;i3,2,5;");
        x.due(x.ahead(0, 1, 0), 0);
        x.due(x.ahead(0, 1, 1), 3);
        x.due(x.ahead(1, 1, 0), 1);
        x.due(x.ahead(1, 1, 1), 4);
        x.due(x.ahead(1, 2, 0), 0);
        x.due(x.ahead(1, 60, 0), 0);
        x.due(x.ahead(1, 60, 1), 3);
    }

    static void promise15_beyondSeason999() {
        Edge.says("d SEASONS from now (0 to 60)");
        Told x = Edge.inSeason(999, "l0,0,1,1,9;p0,2,9;i5,1,0;");
        x.buildAll(0, 9);
        // STORMS of 4 come behind SEASONS 1003, 1008 and so on
        x.due(x.ahead(0, 4, 0), 9);
        x.due(x.ahead(0, 5, 0), 8);
        x.due(x.ahead(0, 45, 1), 0);
        x.due(x.ahead(0, 60, 0), 0);
        x.due(x.count(2), 999);
    }

    // ---- purse

    static void promise16_d0To60() {
        Edge.says("FORETOLD (nothing changes), d SEASONS from now (0 to 60)");
        Told x = Edge.with(Edge.FIVE);
        for (int d = 0; d <= 60; d++) {
            Told later = Edge.inSeason(d, Edge.FIVE);
            x.due(x.purse(d), later.count(4));
        }
        for (int d : NOT_0_TO_60) {
            x.due(x.purse(d), Edge.BAD);
        }
    }

    static void promise16_noCoastIsAheadOfBad() {
        Edge.says("PURSE. BAD; STATE: no COAST (ahead of BAD).");
        Told x = new Told();
        x.due(x.purse(0), Edge.STATE);
        x.due(x.purse(60), Edge.STATE);
        for (int d : NOT_0_TO_60) {
            x.due(x.purse(d), Edge.STATE);
        }
        x.read(Edge.BARE);
        x.due(x.purse(0), 0);
        x.due(x.purse(60), 0);
        x.due(x.purse(61), Edge.BAD);
    }

    static void promise16_9999AtMost() {
        Edge.says("(9999 at most)");
        Told x = Edge.inSeason(60, Edge.RICH);
        x.due(x.purse(0), 8700);
        x.due(x.purse(8), 9860);
        x.due(x.purse(9), 9999);
        x.due(x.purse(60), 9999);
        Told exact = Edge.inSeason(300, "l0,1,30,0,0;i0,1,9;w0,1,9;c0,1,9;p0,1,6;");
        exact.due(exact.purse(2), 9966);
        exact.due(exact.purse(3), 9999);
        exact.due(exact.purse(4), 9999);
    }

    static void promise16_beyondSeason999() {
        Edge.says("d SEASONS from now (0 to 60)");
        Told x = Edge.inSeason(999, "l0,1,30,0,0;i0,1,1;");
        x.due(x.purse(0), 999);
        x.due(x.purse(1), 1000);
        x.due(x.purse(60), 1059);
    }

    // ---- gone

    static void promise17_nowIs0() {
        Edge.says("GONE: behind how many SEASONS (0: now; to 60) a PIER first has no SPANS; NONE.");
        Told x = Edge.with("l0,0,1,4,1;i0,1,0;i0,1,4;i0,1,5;w0,1,1;");
        x.due(x.gone(0), 0);
        x.due(x.gone(1), 1);
        x.due(x.gone(2), 2);
        x.due(x.gone(3), 1);
        x.build(0);
        x.due(x.gone(0), 1);
        Told none = Edge.with("l0,0,1,0,0;i0,1,0;i0,1,1;");
        none.due(none.gone(0), 0);
        none.due(none.gone(1), Edge.NONE);
    }

    static void promise17_to60() {
        Edge.says("(0: now; to 60)");
        // by GALE 1 one on piles loses 1 in SEASONS 3, 8, 13 and so on
        Told x = Edge.with("l0,0,1,1,9;p0,1,9;");
        x.buildAll(0, 3);
        x.due(x.gone(0), 59);
        x.seasons(4);
        x.build(0);
        x.due(x.pier(0, 2), 12);
        x.due(x.gone(0), 60);
        x.build(0);
        x.due(x.gone(0), Edge.NONE);
    }

    static void promise17_61IsNone() {
        Edge.says("GONE; NONE. BAD.");
        Told x = Edge.inSeason(3, "l0,0,1,1,9;p0,1,9;");
        x.buildAll(0, 3);
        x.due(x.gone(0), 56);
        x.build(0);
        x.due(x.gone(0), Edge.NONE);
        x.seasons(1);
        x.due(x.gone(0), 60);
    }

    static void promise17_piersThatAreThere() {
        Edge.says("GONE; NONE. BAD.");
        Told x = Edge.with(Edge.FIVE);
        int[] gone = {2, 4, 3, 3, 7};
        for (int pier = 0; pier < 5; pier++) {
            x.due(x.gone(pier), gone[pier]);
        }
        for (int pier : NO_PIERS_OF_FIVE) {
            x.due(x.gone(pier), Edge.BAD);
        }
        x.read(Edge.BARE);
        x.due(x.gone(0), Edge.BAD);
    }

    // ---- aim

    static void promise18_placesAre0To9() {
        Edge.says("BAD: PLACE (0 to 9), out, too.");
        Told x = Edge.with("l0,0,1,0,9;i0,1,0;i9,1,0;");
        x.due(x.aim(0, 0, 1, 0), 1);
        x.due(x.aim(0, 9, 1, 0), 0);
        x.due(x.aim(0, 1, 1, 0), 2);
        x.due(x.aim(1, 0, 1, 0), 2);
        x.due(x.aim(1, 8, 1, 0), 0);
        for (int place : new int[] {-1, 10, 11, -10, Edge.LEAST, Edge.MOST}) {
            x.due(x.aim(0, place, 1, 0), Edge.BAD);
            x.due(x.aim(0, place, 1, 1), Edge.BAD);
        }
    }

    static void promise18_outIs1To20() {
        Edge.says("AIM of a PIER to a PLACE, so far OUT (1 to 20)");
        Told x = Edge.withIron(29);
        x.due(x.aim(0, 0, 20, 1), 16);
        x.due(x.aim(0, 0, 4, 1), 0);
        x.due(x.aim(0, 0, 1, 1), Edge.NONE);
        for (int out : new int[] {0, 21, -1, -4, Edge.LEAST, Edge.MOST}) {
            x.due(x.aim(0, 0, out, 0), Edge.BAD);
            x.due(x.aim(0, 0, out, 1), Edge.BAD);
        }
        Told y = Edge.with("l0,0,1,0,1;i0,1,0;");
        y.due(y.aim(0, 0, 1, 1), 1);
        y.due(y.aim(0, 0, 0, 1), Edge.BAD);
    }

    static void promise18_leanOrHowMany() {
        Edge.says("AIM: LEAN (what = 0), how many (1); NONE.", "how many spans are to be built for that");
        Told x = Edge.with("l0,0,1,0,9;i2,0,3;");
        x.due(x.aim(0, 9, 7, 0), 2);
        x.due(x.aim(0, 9, 7, 1), 4);
        for (int what : new int[] {-1, 2, Edge.LEAST, Edge.MOST}) {
            x.due(x.aim(0, 9, 7, what), Edge.BAD);
        }
    }

    static void promise18_ofSeveralTheLeast() {
        Edge.says("the LEAN by which it is there by as many SPANS, of several the least");
        Told x = Edge.withIron(29);
        for (int out = 5; out <= 20; out++) {
            int down = (100 - out) % 10;
            int up = out % 10;
            x.due(x.aim(0, down, out, 0), 0);
            x.due(x.aim(0, 0, out, 0), out % 10 == 0 ? 0 : 1);
            x.due(x.aim(0, up, out, 0), out % 5 == 0 ? 0 : 2);
            x.due(x.aim(0, up, out, 1), out - 4);
        }
    }

    static void promise18_byNone() {
        Edge.says("NONE: by none, or it goes farther already, or IRON is not enough");
        Told x = Edge.with("l0,0,1,0,9;i4,1,2;");
        for (int place = 0; place <= 9; place++) {
            boolean isReached = place == 1 || place == 4 || place == 7;
            x.due(x.aim(0, place, 3, 0), isReached ? (place - 1) / 3 : Edge.NONE);
            x.due(x.aim(0, place, 3, 1), isReached ? 1 : Edge.NONE);
        }
    }

    static void promise18_fartherAlready() {
        Edge.says("it goes farther already");
        Told x = Edge.with("l0,0,1,0,9;i4,2,6;");
        x.due(x.aim(0, 4, 5, 0), Edge.NONE);
        x.due(x.aim(0, 4, 5, 1), Edge.NONE);
        x.due(x.aim(0, 4, 6, 0), 1);
        x.due(x.aim(0, 4, 6, 1), 0);
        x.due(x.aim(0, 0, 6, 0), 2);
        x.due(x.aim(0, 4, 7, 1), 1);
        Told high = Edge.withLongPier(21, 0);
        high.due(high.aim(0, 0, 20, 0), Edge.NONE);
    }

    static void promise18_ironIsJustEnough() {
        Edge.says("IRON is not enough");
        for (int iron = 0; iron <= 9; iron++) {
            Told x = Edge.with("l0,0,1,0," + iron + ";w7,1,3;");
            x.due(x.aim(0, 7, 3 + iron, 1), iron);
            x.due(x.aim(0, 7, 3 + iron, 0), iron == 7 ? 0 : 1);
            x.due(x.aim(0, 7, 4 + iron, 1), Edge.NONE);
            x.due(x.aim(0, 7, 4 + iron, 0), Edge.NONE);
        }
    }

    static void promise18_badIsAheadOfNone() {
        Edge.says("BAD: PLACE (0 to 9), out, too.");
        Told x = Edge.with("l0,0,1,0,0;i4,1,9;");
        x.due(x.aim(0, 5, 2, 0), Edge.NONE);
        x.due(x.aim(1, 5, 2, 0), Edge.BAD);
        x.due(x.aim(-1, 5, 2, 0), Edge.BAD);
        x.due(x.aim(0, 10, 2, 0), Edge.BAD);
        x.due(x.aim(0, 5, 0, 0), Edge.BAD);
        x.due(x.aim(0, 5, 21, 0), Edge.BAD);
        x.due(x.aim(0, 5, 2, 2), Edge.BAD);
        x.read(Edge.BARE);
        x.due(x.aim(0, 5, 2, 0), Edge.BAD);
    }

    // ---- take

    static void promise19_placesAre0To9() {
        Edge.says("YEARS: what would be the TAKE of a PLACE, so far OUT (0 to 99)");
        Told x = Edge.with("l2,1,30,0,0;");
        for (int place = 0; place <= 9; place++) {
            x.due(x.take(place, 1), 2 * place + 1);
        }
        for (int place : new int[] {-1, 10, 11, Edge.LEAST, Edge.MOST}) {
            x.due(x.take(place, 1), Edge.BAD);
        }
    }

    static void promise19_outIs0To99() {
        Edge.says("so far OUT (0 to 99)");
        Told x = Edge.with("l3,7,30,0,0;");
        for (int out = 1; out <= 99; out++) {
            x.due(x.take(9, out), (27 + 7 * out) % 30);
        }
        x.due(x.take(0, 0), 0);
        for (int out : new int[] {-1, 100, 101, Edge.LEAST, Edge.MOST}) {
            x.due(x.take(9, out), Edge.BAD);
        }
    }

    static void promise19_nothingIsTakenWithoutSpans() {
        Edge.says("0, if it has no SPANS");
        Told x = Edge.with("l3,7,30,0,0;");
        for (int place = 0; place <= 9; place++) {
            x.due(x.take(place, 0), 0);
        }
    }

    static void promise19_noCoastIsAheadOfBad() {
        Edge.says("YEARS. BAD; STATE: no COAST (ahead of BAD).");
        Told x = new Told();
        x.due(x.take(0, 0), Edge.STATE);
        x.due(x.take(-1, 0), Edge.STATE);
        x.due(x.take(10, 100), Edge.STATE);
        x.read("l9,9,1,0,0;");
        x.due(x.take(9, 99), 0);
        x.due(x.take(10, 0), Edge.BAD);
    }

    // ---- give

    private static void dueGiven(Told x, int d, int much, int... shares) {
        int all = 0;
        for (int k = 0; k < shares.length; k++) {
            x.due(x.give(d, k), shares[k]);
            all += shares[k];
        }
        x.due(x.give(d, -2), all);
        x.due(x.give(d, -1), much);
    }

    static void promise20_kIsMinus2To4() {
        Edge.says("how much (k = -1), how many (k = -2), on the k-th (0 on; NONE: no such PIER)", "BAD: k not -2 to 4, too");
        Told x = Edge.with(Edge.FIVE);
        dueGiven(x, 6, 229, 3, 1, 1, 1, 0);
        for (int k : new int[] {-3, 5, 6, Edge.LEAST, Edge.MOST}) {
            x.due(x.give(6, k), Edge.BAD);
        }
    }

    static void promise20_noSuchPier() {
        Edge.says("NONE: no such PIER");
        String text = "l0,1,30,0,1;";
        for (int piers = 0; piers <= 5; piers++) {
            Told x = Edge.with(text);
            for (int k = 0; k <= 4; k++) {
                x.due(x.give(1, k), k >= piers ? Edge.NONE : k == piers - 1 ? 1 : 0);
                x.due(x.give(61, k), Edge.BAD);
            }
            x.due(x.give(1, 5), Edge.BAD);
            x.due(x.give(1, -2), piers == 0 ? 0 : 1);
            x.due(x.give(1, -1), piers == 0 ? 0 : 2 * piers + 1);
            text += "i0,1,2;";
        }
    }

    static void promise20_d0To60() {
        Edge.says("d SEASONS from now (0 to 60)");
        Told x = Edge.with("l0,1,30,0,2;i0,1,3;");
        for (int d = 0; d <= 60; d++) {
            x.due(x.give(d, -1), 5 * d);
            x.due(x.give(d, 0), d == 0 ? 0 : 2);
        }
        for (int d : NOT_0_TO_60) {
            x.due(x.give(d, -1), Edge.BAD);
            x.due(x.give(d, 0), Edge.BAD);
        }
    }

    static void promise20_noCoastIsAheadOfBad() {
        Edge.says("STATE: no COAST (ahead of BAD)");
        Told x = new Told();
        x.due(x.give(0, -1), Edge.STATE);
        x.due(x.give(61, -1), Edge.STATE);
        x.due(x.give(0, 5), Edge.STATE);
        x.due(x.give(0, 0), Edge.STATE);
        x.read(Edge.BARE);
        x.due(x.give(0, 0), Edge.NONE);
        x.due(x.give(-1, 0), Edge.BAD);
    }

    static void promise20_noIron() {
        Edge.says("as many in all as there is IRON (9 at most) or fewer");
        Told x = Edge.with("l0,1,30,0,0;i0,1,3;i0,1,5;");
        dueGiven(x, 3, 24, 0, 0);
        x.seasons(1);
        x.due(x.buy(1), 1);
        dueGiven(x, 3, 3 + 27, 0, 1);
    }

    static void promise20_allIronTo9() {
        Edge.says("as many in all as there is IRON (9 at most) or fewer");
        for (int iron = 0; iron <= 9; iron++) {
            Told x = Edge.with("l0,1,30,0," + iron + ";i0,1,1;");
            dueGiven(x, 1, 1 + iron, iron);
        }
        for (int bought = 1; bought <= 20; bought++) {
            Told x = Edge.inSeason(12, "l0,1,30,0,9;i0,1,9;");
            x.due(x.buy(bought), 9 + bought);
            dueGiven(x, 1, 108 - 5 * bought + 18, 9);
        }
        Told much = Edge.inSeason(60, "l0,1,30,0,9;i0,1,9;");
        much.buyAll(90);
        much.due(much.count(5), 99);
        dueGiven(much, 1, 90 + 18, 9);
    }

    static void promise20_99SpansAtMost() {
        Edge.says("on each PIER any (it has 99 at most then)");
        // PIER 0 would take 25 by 101 spans; PIER 1 takes 20 by 4, 25 by 5
        for (int spans = 95; spans <= 99; spans++) {
            Told x = Edge.withLongPier(spans, 9);
            int purse = x.count(4);
            // by 95 spans 25 are taken already, by 99 it is 15
            dueGiven(x, 1, purse + (spans == 95 ? 25 : 15) + 25, spans == 95 ? 0 : 99 - spans, 1);
        }
    }

    static void promise20_ofSeveralTheFewestInAll() {
        Edge.says("of several the fewest in all, of these the first (pier by pier, fewest first)");
        // one span on PIER 0, or three on PIER 1, are 1 more; the three would come first
        dueGiven(Edge.with("l6,3,8,0,3;i0,2,6;w1,1,8;"), 1, 13, 1, 0);
        // nothing is more by any
        dueGiven(Edge.with("l0,0,30,0,9;i0,2,6;w1,1,8;"), 60, 0, 0, 0);
        // what is best is so already
        dueGiven(Edge.with("l0,1,9,0,9;i0,1,8;w1,1,8;"), 1, 16, 0, 0);
    }

    static void promise20_ofTheFewestTheFirst() {
        Edge.says("of these the first (pier by pier, fewest first)");
        dueGiven(Edge.with("l0,1,30,0,3;i0,1,2;i0,1,2;i0,1,2;"), 1, 9, 0, 0, 3);
        dueGiven(Edge.with("l0,1,5,0,3;i0,1,2;i0,1,2;i0,1,2;"), 1, 9, 0, 1, 2);
        dueGiven(Edge.with("l0,1,4,0,2;i0,1,2;i0,1,2;i0,1,2;"), 1, 8, 0, 1, 1);
        dueGiven(Edge.with("l0,1,4,0,2;i0,1,3;i0,1,2;i0,1,2;"), 1, 9, 0, 1, 1);
    }

    static void promise20_9999AtMost() {
        Edge.says("(9999 at most)", "by which PURSE is most behind d SEASONS, of several the fewest in all");
        Told x = Edge.inSeason(84, "l2,5,30,0,9;i7,1,3;i7,1,3;i7,1,3;i7,1,3;w4,1,0;");
        x.due(x.count(4), 9744);
        dueGiven(x, 1, 9744 + 116 + 28, 0, 0, 0, 0, 4);
        // two SEASONS: 9976 by none; 23 each by one span more, so that one is enough for 9999
        dueGiven(x, 2, 9999, 0, 0, 0, 0, 1);
        dueGiven(x, 3, 9999, 0, 0, 0, 0, 0);
        dueGiven(x, 60, 9999, 0, 0, 0, 0, 0);
    }

    static void promise20_behindAnotherCoast() {
        Edge.says("GIVE for d: spans built now", "A COAST that is read stands in place of the one before");
        Told x = Edge.with(Edge.RICH);
        for (int piers = 4; piers >= 0; piers--) {
            x.give(60, 0);
            x.read("l0,1,30,0,9;" + "i0,1,1;".repeat(piers));
            int[] shares = new int[piers];
            if (piers > 0) {
                shares[piers - 1] = 9;
            }
            dueGiven(x, 2, piers == 0 ? 0 : 2 * (piers + 9), shares);
            x.read(Edge.RICH);
        }
    }

    static void promise20_stormsAreForetold() {
        Edge.says("by which PURSE is most behind d SEASONS");
        // the STORM of 4 takes 4 of iron, 1 of one on piles
        Told x = Edge.with("l0,1,30,4,9;i0,1,1;p0,1,1;");
        dueGiven(x, 1, 11, 0, 9);
        dueGiven(x, 2, 10 + 9 + 1, 0, 9);
    }

    // ---- turning

    static void promise21_whatIs0To2() {
        Edge.says("TURN: which (what = 0), LEAN (1), how much (2); NONE.", "which; how it LEANS; how much");
        Told x = Edge.with(Edge.FIVE);
        x.due(x.turning(1, 0), 3);
        x.due(x.turning(1, 1), 0);
        x.due(x.turning(1, 2), 46);
        for (int what : new int[] {-1, 3, Edge.LEAST, Edge.MOST}) {
            x.due(x.turning(1, what), Edge.BAD);
        }
    }

    static void promise21_d0To60() {
        Edge.says("d SEASONS from now (0 to 60)");
        Told x = Edge.with("l1,0,30,0,0;i4,1,3;");
        for (int d = 0; d <= 60; d++) {
            x.due(x.turning(d, 2), 7 * d);
            x.due(x.turning(d, 1), d == 0 ? 0 : 2);
            x.due(x.turning(d, 0), 0);
        }
        for (int d : NOT_0_TO_60) {
            for (int what = 0; what <= 2; what++) {
                x.due(x.turning(d, what), Edge.BAD);
            }
        }
    }

    static void promise21_noPiers() {
        Edge.says("NONE: there are no PIERS");
        Told x = Edge.with(Edge.BARE);
        for (int what = 0; what <= 2; what++) {
            x.due(x.turning(0, what), Edge.NONE);
            x.due(x.turning(60, what), Edge.NONE);
            x.due(x.turning(61, what), Edge.BAD);
        }
        x.due(x.turning(0, 3), Edge.BAD);
    }

    static void promise21_noCoastIsAheadOfBad() {
        Edge.says("STATE: no COAST (ahead of BAD)");
        Told x = new Told();
        x.due(x.turning(0, 0), Edge.STATE);
        x.due(x.turning(-1, 0), Edge.STATE);
        x.due(x.turning(0, 3), Edge.STATE);
    }

    static void promise21_notAsItIs() {
        Edge.says("the one PIER and LEAN (not as it is)");
        // as it is 9 would be taken; turned it is worse
        Told x = Edge.with("l1,0,30,0,0;i6,2,3;");
        x.due(x.turning(1, 1), 1);
        x.due(x.turning(1, 2), 6);
        x.due(x.purse(1), 9);
        Told y = Edge.with("l1,0,30,0,0;i2,0,3;");
        y.due(y.turning(1, 1), 2);
        y.due(y.turning(1, 2), 5);
        // without SPANS nothing is taken either way
        for (int lean = 0; lean <= 2; lean++) {
            Told z = Edge.with("l1,0,30,0,0;i2," + lean + ",0;");
            z.due(z.turning(5, 0), 0);
            z.due(z.turning(5, 1), lean == 0 ? 1 : 0);
            z.due(z.turning(5, 2), 0);
        }
    }

    static void promise21_ofSeveralTheFirst() {
        Edge.says("of several the first (by PIERS, then LEANS)");
        Told x = Edge.with("l1,0,30,0,0;i5,1,0;i0,1,5;i0,1,5;");
        x.due(x.turning(1, 0), 1);
        x.due(x.turning(1, 1), 0);
        x.due(x.turning(1, 2), 5);
        Told y = Edge.with("l1,0,30,0,0;i0,2,5;i0,1,5;");
        y.due(y.turning(1, 0), 1);
        y.due(y.turning(1, 1), 0);
        y.due(y.turning(1, 2), 10);
        x.due(x.turning(0, 0), 0);
        x.due(x.turning(0, 1), 0);
    }

    static void promise21_9999AtMost() {
        Edge.says("(9999 at most)");
        Told x = Edge.inSeason(69, Edge.RICH);
        x.due(x.turning(1, 0), 0);
        x.due(x.turning(1, 1), 0);
        x.due(x.turning(1, 2), 9999);
        x.due(x.turning(60, 2), 9999);
    }

    static void promise21_theLastPier() {
        Edge.says("the one PIER and LEAN (not as it is) by which, turned now, PURSE is most behind d SEASONS");
        Told x = Edge.with("l1,0,30,0,0;i9,1,1;i9,1,1;i9,1,1;i9,1,1;i8,1,1;");
        x.due(x.turning(1, 0), 4);
        x.due(x.turning(1, 1), 2);
        x.due(x.turning(1, 2), 45);
        x.due(x.turning(60, 2), 45 * 60);
    }

    // ---- cross

    private static void dueCrossing(String piers, int pairs, int first, int far) {
        Told x = Edge.with("l0,0,1,0,9;" + piers);
        x.due(x.cross(0), pairs);
        x.due(x.cross(1), first);
        x.due(x.cross(2), far);
    }

    static void promise22_whatIs0To2() {
        Edge.says("CROSS: how many (what = 0), the first (1), how far OUT (2); NONE (1, 2).");
        Told x = Edge.with("l0,0,1,0,0;i3,2,5;i7,0,5;");
        x.due(x.cross(0), 1);
        x.due(x.cross(1), 1);
        x.due(x.cross(2), 2);
        for (int what : new int[] {-1, 3, 4, Edge.LEAST, Edge.MOST}) {
            x.due(x.cross(what), Edge.BAD);
        }
    }

    static void promise22_noCoastIsAheadOfBad() {
        Edge.says("BAD; STATE: no COAST (ahead of BAD)");
        Told x = new Told();
        for (int what : new int[] {0, 1, 2, -1, 3}) {
            x.due(x.cross(what), Edge.STATE);
        }
    }

    static void promise22_noPairs() {
        Edge.says("NONE (1, 2)");
        dueCrossing("", 0, Edge.NONE, Edge.NONE);
        dueCrossing("i3,1,9;", 0, Edge.NONE, Edge.NONE);
        dueCrossing("i3,1,9;i4,1,9;", 0, Edge.NONE, Edge.NONE);
    }

    static void promise22_somewhere1OrMoreOut() {
        Edge.says("somewhere 1 or more OUT");
        dueCrossing("i3,1,0;i3,1,0;", 0, Edge.NONE, Edge.NONE);
        dueCrossing("i3,1,1;i3,1,0;", 0, Edge.NONE, Edge.NONE);
        dueCrossing("i3,1,1;i3,1,1;", 1, 1, 1);
        dueCrossing("i3,0,4;i3,2,4;", 0, Edge.NONE, Edge.NONE);
        dueCrossing("i3,0,5;i3,2,5;", 1, 1, 5);
    }

    static void promise22_bothGoingSoFar() {
        Edge.says("both going so far");
        dueCrossing("i1,2,3;i7,0,3;", 1, 1, 3);
        dueCrossing("i1,2,3;i7,0,9;", 1, 1, 3);
        dueCrossing("i1,2,9;i7,0,3;", 1, 1, 3);
        dueCrossing("i1,2,2;i7,0,9;", 0, Edge.NONE, Edge.NONE);
        dueCrossing("i1,2,9;i7,0,2;", 0, Edge.NONE, Edge.NONE);
    }

    static void promise22_roundAbout() {
        Edge.says("round about (0 beside 9)", "pairs of PIERS that are at one PLACE as far OUT as one another");
        dueCrossing("i9,2,1;i0,1,1;", 1, 1, 1);
        dueCrossing("i0,0,1;i9,1,1;", 1, 1, 1);
        dueCrossing("i1,0,2;i7,2,2;", 1, 1, 2);
        dueCrossing("i9,2,1;i1,0,1;", 1, 1, 1);
    }

    static void promise22_tenOut() {
        Edge.says("how far OUT the first ones do so first");
        Told x = Edge.with("l0,0,1,0,2;i3,1,9;i3,2,9;");
        x.due(x.cross(0), 0);
        x.build(0);
        x.due(x.cross(0), 0);
        x.build(1);
        x.due(x.cross(0), 1);
        x.due(x.cross(1), 1);
        x.due(x.cross(2), 10);
    }

    static void promise22_allTenPairs() {
        Edge.says("how many; the first (10 times the lesser, and the greater)");
        dueCrossing("i3,1,1;i3,1,1;i3,1,1;i3,1,1;i3,1,1;", 10, 1, 1);
        dueCrossing("i3,1,1;i5,1,1;i7,1,1;i9,1,1;i9,1,1;", 1, 34, 1);
        dueCrossing("i3,1,1;i5,1,1;i7,1,1;i9,1,1;i3,1,1;", 1, 4, 1);
        dueCrossing("i3,1,1;i5,1,1;i7,1,1;i5,1,1;i3,1,1;", 2, 4, 1);
    }

    static void promise22_theFirstPairNotTheNearest() {
        Edge.says("how far OUT the first ones do so first");
        dueCrossing("i0,2,4;i8,0,4;i2,0,4;", 2, 1, 4);
        dueCrossing("i0,1,9;i5,1,9;i5,0,9;i5,2,9;", 3, 2, 5);
    }
}
