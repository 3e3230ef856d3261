/** Promises 23 to 27, sentence by sentence: what fits, what burns, what is drawn, images. */
public final class EdgesOfFitsAndDraws {
    private static final int ALL_LONG = (1 << 30) - 1;

    public static void main(String[] args) {
        Edge.run(EdgesOfFitsAndDraws.class);
    }

    // ---- fits

    static void promise23_oneTo16Seasons() {
        Edge.says("what all TAKE, together, in each of n SEASONS (1 to 16) from this one on");
        Told x = Edge.with("l0,0,1,0,0;i0,1,1;");
        x.row(0, 0, 40);
        for (int n = 1; n <= 16; n++) {
            x.due(x.fits(0, 0, 0, n, 1), 7);
            x.due(x.fits(0, 0, 40 - n, n, 1), 7);
            x.due(x.fits(0, 0, 41 - n, n, 1), Edge.PLACE);
        }
        for (int n : new int[] {0, 17, 18, -1, Edge.LEAST, Edge.MOST}) {
            x.due(x.fits(0, 0, 0, n, 1), Edge.BAD);
        }
    }

    static void promise23_theLastSeasonCounts() {
        Edge.says("what all TAKE, together, in each of n SEASONS (1 to 16) from this one on");
        Told x = Edge.with(Edge.CALM);
        x.row(0, 0, 16);
        for (int i = 0; i < 16; i++) {
            x.set(0, i, 20);
        }
        x.due(x.fits(0, 0, 0, 16, 0), 1023);
        x.set(0, 15, 21);
        x.due(x.fits(0, 0, 0, 16, 0), 0);
        x.due(x.fits(0, 0, 0, 15, 0), 1023);
        x.set(0, 0, 19);
        x.due(x.fits(0, 0, 0, 15, 0), 0);
        x.due(x.fits(0, 0, 1, 14, 0), 1023);
    }

    static void promise23_placesOfTheRow() {
        Edge.says("n ITEMS of a ROW from i on", "BAD: PIER, ROW, n, what; NULL; PLACE.");
        Told x = Edge.with("l0,0,1,0,0;i0,1,1;");
        for (int size : new int[] {0, 1, 2, 16, 40}) {
            x.row(7, 2, size);
            for (int n = 1; n <= 16; n += 5) {
                x.due(x.fits(0, 7, size - n, n, 1), size < n ? Edge.PLACE : 7);
                x.due(x.fits(0, 7, size - n + 1, n, 1), Edge.PLACE);
                x.due(x.fits(0, 7, -1, n, 1), Edge.PLACE);
                x.due(x.fits(0, 7, Edge.LEAST, n, 1), Edge.PLACE);
                x.due(x.fits(0, 7, Edge.MOST, n, 1), Edge.PLACE);
            }
        }
        x.due(x.status(), 2);
    }

    static void promise23_rowsPiersWhat() {
        Edge.says("FROMS (what = 0), LEANS (1), SORTS (2), LONG (3)", "BAD: PIER, ROW, n, what; NULL; PLACE.");
        Told x = Edge.with("l0,0,1,0,0;i0,1,1;w0,1,1;");
        for (int row = 0; row <= 7; row++) {
            x.row(row, 0, 1);
            x.due(x.fits(1, row, 0, 1, 1), 7);
        }
        int[] all = {1023, 7, 62, ALL_LONG};
        for (int what = 0; what <= 3; what++) {
            x.due(x.fits(0, 0, 0, 1, what), all[what]);
        }
        for (int wrong : new int[] {-1, Edge.LEAST, Edge.MOST}) {
            x.due(x.fits(wrong, 0, 0, 1, 0), Edge.BAD);
            x.due(x.fits(0, wrong, 0, 1, 0), Edge.BAD);
            x.due(x.fits(0, 0, 0, 1, wrong), Edge.BAD);
        }
        x.due(x.fits(2, 0, 0, 1, 0), Edge.BAD);
        x.due(x.fits(0, 8, 0, 1, 0), Edge.BAD);
        x.due(x.fits(0, 0, 0, 1, 4), Edge.BAD);
        x.read(Edge.BARE);
        x.due(x.fits(0, 0, 0, 1, 0), Edge.BAD);
    }

    static void promise23_badThenNullThenPlace() {
        Edge.says("BAD: PIER, ROW, n, what; NULL; PLACE.", "the first of these that fits");
        Told x = Edge.with(Edge.CALM);
        x.row(0, 0, 1);
        x.due(x.fits(1, 7, -1, 1, 0), Edge.BAD);
        x.due(x.fits(0, 8, -1, 1, 0), Edge.BAD);
        x.due(x.fits(0, 7, -1, 0, 0), Edge.BAD);
        x.due(x.fits(0, 7, -1, 17, 0), Edge.BAD);
        x.due(x.fits(0, 7, -1, 1, 4), Edge.BAD);
        x.due(x.fits(0, 0, 0, 17, 0), Edge.BAD);
        x.due(x.fits(0, 7, -1, 1, 0), Edge.NULL);
        x.due(x.fits(0, 7, 0, 1, 0), Edge.NULL);
        x.due(x.fits(0, 0, 0, 2, 0), Edge.PLACE);
    }

    static void promise23_fromsAre0To9() {
        Edge.says("FROMS (0 to 9, bits) of one by which it is so");
        Told x = Edge.with("l3,1,30,0,0;i4,1,2;");
        x.row(0, 1, 1);
        for (int from = 0; from <= 9; from++) {
            x.set(0, 0, 3 * from + 2);
            x.due(x.fits(0, 0, 0, 1, 0), 1 << from);
        }
        x.set(0, 0, 3);
        x.due(x.fits(0, 0, 0, 1, 0), 0);
    }

    static void promise23_leansAre0To2() {
        Edge.says("LEANS (0 to 2, bits)");
        Told x = Edge.with("l1,0,30,0,0;i4,1,3;");
        x.row(0, 1, 1);
        int[] taken = {1, 4, 7};
        for (int lean = 0; lean <= 2; lean++) {
            x.set(0, 0, taken[lean]);
            x.due(x.fits(0, 0, 0, 1, 1), 1 << lean);
        }
        x.set(0, 0, 0);
        x.due(x.fits(0, 0, 0, 1, 1), 0);
        Told both = Edge.with("l1,0,30,0,0;i4,1,5;");
        both.row(0, 1, 1);
        both.set(0, 0, 9);
        both.due(both.fits(0, 0, 0, 1, 1), 5);
    }

    static void promise23_sortsAreBits1To5() {
        Edge.says("SORTS: KINDS (bits 1 to 5)");
        // the STORM of SEASON 0 is 4: of 9 spans iron has 5 then, cast 7, rusty 4, wood 8, piles 8; then it is 3
        Told x = Edge.with("l0,1,30,4,0;i0,1,9;");
        x.row(0, 0, 3);
        int[][] taken = {{9, 5, 2}, {9, 7, 6}, {9, 4, 1}, {9, 8, 7}, {9, 8, 8}};
        for (int kind = 1; kind <= 5; kind++) {
            x.setAll(0, taken[kind - 1]);
            x.due(x.fits(0, 0, 0, 3, 2), 1 << kind);
        }
        x.due(x.fits(0, 0, 0, 2, 2), 1 << 4 | 1 << 5);
        x.due(x.fits(0, 0, 0, 1, 2), 62);
    }

    static void promise23_longIs0To29() {
        Edge.says("LONG: SPANS (0 to 29, bits) it has now");
        Told x = Edge.with("l0,1,30,0,0;i0,1,5;");
        x.row(0, 0, 1);
        for (int spans = 0; spans <= 29; spans++) {
            x.set(0, 0, spans);
            x.due(x.fits(0, 0, 0, 1, 3), 1 << spans);
        }
        x.set(0, 0, 30);
        x.due(x.fits(0, 0, 0, 1, 3), 0);
        // it has more than 29, which cannot be told
        Told high = Edge.withLongPier(31, 0);
        high.row(0, 0, 1);
        high.set(0, 0, 31 * 5 % 30 + 20);
        high.due(high.fits(0, 0, 0, 1, 3), 1 << 1 | 1 << 7 | 1 << 13 | 1 << 19 | 1 << 25);
    }

    static void promise23_withoutSpansNothingIsTaken() {
        Edge.says("0, if it has no SPANS", "LONG: SPANS (0 to 29, bits) it has now");
        Told x = Edge.with("l1,0,30,0,0;i7,1,5;");
        x.row(0, 0, 1);
        x.due(x.fits(0, 0, 0, 1, 3), 1);
        x.set(0, 0, 7);
        x.due(x.fits(0, 0, 0, 1, 3), ALL_LONG - 1);
    }

    static void promise23_whatALaneCanHold() {
        Edge.says("A row tells what all TAKE, together");
        // 145 is taken in all: a byte cannot tell it
        Told x = Edge.with(Edge.RICH);
        for (int lane = 0; lane <= 2; lane++) {
            x.row(lane, lane, 1);
            x.set(lane, 0, 145);
            x.due(x.fits(0, lane, 0, 1, 1), lane == 0 ? 0 : 2);
            x.set(lane, 0, 145 + 256);
            x.due(x.fits(0, lane, 0, 1, 1), 0);
        }
        x.set(0, 0, -1);
        x.due(x.fits(0, 0, 0, 1, 1), 0);
    }

    static void promise23_fromThisSeasonOn() {
        Edge.says("in each of n SEASONS (1 to 16) from this one on");
        // by GALE 2 the STORMS are 2, 4, 1, 3, 0
        Told x = Edge.with("l0,1,30,2,9;i0,1,9;");
        x.row(0, 0, 4);
        x.setAll(0, 9, 7, 3, 2);
        x.due(x.fits(0, 0, 0, 4, 3), 1 << 9);
        x.seasons(1);
        x.due(x.fits(0, 0, 0, 4, 3), 0);
        x.due(x.fits(0, 0, 1, 3, 3), 1 << 7);
        x.due(x.pier(0, 2), 7);
        x.undo();
        x.due(x.fits(0, 0, 0, 4, 3), 1 << 9);
    }

    static void promise23_beyondSeason999() {
        Edge.says("in each of n SEASONS (1 to 16) from this one on");
        Told x = Edge.inSeason(999, "l0,1,30,1,9;w0,1,9;");
        x.buildAll(0, 3);
        x.row(0, 0, 16);
        x.setAll(0, 3, 3, 2, 1);
        x.due(x.fits(0, 0, 0, 16, 3), 1 << 3);
        x.due(x.count(2), 999);
    }

    // ---- fire

    private static void dueFraction(Told x, int q, int c, int above, int below) {
        x.due(x.fire(q, c, 0), above);
        x.due(x.fire(q, c, 1), below);
    }

    static void promise24_qIs0To200() {
        Edge.says("that q (0 to 200), or more, is TAKEN in this SEASON: a fraction");
        Told x = Edge.with("l0,1,30,0,0;i0,1,7;");
        dueFraction(x, 0, 3, 1, 1);
        dueFraction(x, 1, 3, 7, 10);
        dueFraction(x, 7, 3, 7, 10);
        dueFraction(x, 8, 3, 0, 1);
        dueFraction(x, 200, 3, 0, 1);
        for (int q : new int[] {-1, 201, 202, Edge.LEAST, Edge.MOST}) {
            dueFraction(x, q, 3, Edge.BAD, Edge.BAD);
        }
    }

    static void promise24_cIs0To10() {
        Edge.says("FIRE (c 0 to 10): above (what = 0), below (1).");
        Told x = Edge.with("l0,1,30,0,0;i0,1,7;");
        int[] above = {1, 9, 4, 7, 3, 1, 2, 3, 1, 1, 0};
        int[] below = {1, 10, 5, 10, 5, 2, 5, 10, 5, 10, 1};
        for (int c = 0; c <= 10; c++) {
            dueFraction(x, 7, c, above[c], below[c]);
            dueFraction(x, 0, c, 1, 1);
            dueFraction(x, 8, c, 0, 1);
        }
        for (int c : new int[] {-1, 11, 12, Edge.LEAST, Edge.MOST}) {
            dueFraction(x, 7, c, Edge.BAD, Edge.BAD);
        }
    }

    static void promise24_whatIs0Or1() {
        Edge.says("above (what = 0), below (1)");
        Told x = Edge.with(Edge.FIVE);
        x.due(x.fire(1, 1, 0), 99999);
        x.due(x.fire(1, 1, 1), 100000);
        for (int what : new int[] {-1, 2, Edge.LEAST, Edge.MOST}) {
            x.due(x.fire(1, 1, what), Edge.BAD);
        }
    }

    static void promise24_noCoastIsAheadOfBad() {
        Edge.says("BAD; STATE: no COAST (ahead of BAD).");
        Told x = new Told();
        x.due(x.fire(0, 0, 0), Edge.STATE);
        x.due(x.fire(201, 0, 0), Edge.STATE);
        x.due(x.fire(0, 11, 0), Edge.STATE);
        x.due(x.fire(0, 0, 2), Edge.STATE);
    }

    static void promise24_noPiers() {
        Edge.says("0 is 0 by 1");
        Told x = Edge.with(Edge.BARE);
        for (int c = 0; c <= 10; c++) {
            dueFraction(x, 0, c, 1, 1);
            dueFraction(x, 1, c, 0, 1);
        }
    }

    static void promise24_lowestTerms() {
        Edge.says("fractions, told as two numbers in lowest terms (0 is 0 by 1)");
        Told x = Edge.with(Edge.RICH);
        dueFraction(x, 145, 0, 1, 1);
        dueFraction(x, 145, 5, 1, 32);
        dueFraction(x, 145, 9, 1, 100000);
        dueFraction(x, 145, 8, 1, 3125);
        dueFraction(x, 145, 10, 0, 1);
        dueFraction(x, 146, 5, 0, 1);
        dueFraction(x, 1, 5, 31, 32);
        dueFraction(x, 1, 2, 3124, 3125);
        dueFraction(x, 117, 5, 1, 32);
        dueFraction(x, 116, 5, 3, 16);
    }

    static void promise24_qOrMore() {
        Edge.says("that q (0 to 200), or more, is TAKEN in this SEASON", "each PIER has no SPANS from now on by c of 10, each by itself");
        // 5 and 3 are taken, by one half each
        Told x = Edge.with("l0,1,30,0,0;i0,1,5;w0,1,3;");
        int[] quarters = {4, 3, 3, 3, 2, 2, 1, 1, 1, 0};
        for (int q = 0; q < quarters.length; q++) {
            int above = quarters[q];
            int common = above == 2 ? 2 : above == 4 || above == 0 ? 4 : 1;
            dueFraction(x, q, 5, above / common, 4 / common);
        }
    }

    static void promise24_inThisSeason() {
        Edge.says("is TAKEN in this SEASON");
        Told x = Edge.with("l0,1,30,4,0;i0,1,5;");
        dueFraction(x, 5, 0, 1, 1);
        x.seasons(1);
        dueFraction(x, 1, 0, 1, 1);
        dueFraction(x, 2, 0, 0, 1);
        x.seasons(1);
        dueFraction(x, 1, 0, 0, 1);
        dueFraction(x, 0, 0, 1, 1);
    }

    static void promise24_withoutSpansNothingIsTaken() {
        Edge.says("0, if it has no SPANS");
        Told x = Edge.with("l9,0,30,0,0;i3,1,0;i3,1,1;");
        dueFraction(x, 27, 3, 7, 10);
        dueFraction(x, 28, 3, 0, 1);
    }

    // ---- drawn

    static void promise25_nIs0To60() {
        Edge.says("DECADES of n SEASONS (0 to 60) by a SEED (X at first): ahead of each X becomes the rest of (X times 16807) by 2147483647");
        Told x = Edge.with("l0,1,30,0,0;p0,1,9;");
        x.due(x.drawn(0, 1, 0), 0);
        x.due(x.drawn(0, 1, 1), 9);
        long seed = 1;
        int purse = 0;
        int spans = 9;
        for (int n = 1; n <= 60; n++) {
            seed = seed * 16807 % 2147483647;
            purse += spans;
            spans -= seed % 5 == 4 && spans > 0 ? 1 : 0;
            x.due(x.drawn(n, 1, 0), purse);
            x.due(x.drawn(n, 1, 1), spans);
        }
        for (int n : new int[] {-1, 61, 62, Edge.LEAST, Edge.MOST}) {
            x.due(x.drawn(n, 1, 0), Edge.BAD);
        }
    }

    static void promise25_seedsAre1To999999() {
        Edge.says("DECADES by a SEED (1 to 999999)");
        Told x = Edge.with("l0,1,30,0,1;i0,1,9;");
        // 16807: odd, a STORM of 2
        x.due(x.drawn(1, 1, 0), 9);
        x.due(x.drawn(1, 1, 1), 7);
        // 999999 times 16807 leaves 1774597664: even, a STORM of 4
        x.due(x.drawn(1, 999999, 0), 10);
        x.due(x.drawn(1, 999999, 1), 6);
        for (int seed : new int[] {0, 1000000, -1, Edge.LEAST, Edge.MOST}) {
            x.due(x.drawn(1, seed, 0), Edge.BAD);
            x.due(x.drawn(0, seed, 1), Edge.BAD);
        }
    }

    static void promise25_purseOrSpans() {
        Edge.says("PURSE (what = 0), SPANS (1)");
        Told x = Edge.inSeason(1, "l0,1,30,0,0;i0,1,5;w0,1,3;");
        x.due(x.drawn(0, 7, 0), 8);
        x.due(x.drawn(0, 7, 1), 8);
        // 117649: odd, a STORM of 4
        x.due(x.drawn(1, 7, 0), 16);
        x.due(x.drawn(1, 7, 1), 3);
        for (int what : new int[] {-1, 2, Edge.LEAST, Edge.MOST}) {
            x.due(x.drawn(1, 7, what), Edge.BAD);
        }
    }

    static void promise25_noCoastIsAheadOfBad() {
        Edge.says("BAD; STATE: no COAST (ahead of BAD).");
        Told x = new Told();
        x.due(x.drawn(0, 1, 0), Edge.STATE);
        x.due(x.drawn(61, 1, 0), Edge.STATE);
        x.due(x.drawn(0, 0, 0), Edge.STATE);
        x.due(x.drawn(0, 1, 2), Edge.STATE);
    }

    static void promise25_noPiers() {
        Edge.says("(no PIERS, or it has 99: none)");
        Told x = Edge.with(Edge.BARE);
        x.due(x.drawn(60, 2, 0), 0);
        x.due(x.drawn(60, 999998, 1), 0);
    }

    static void promise25_noIron() {
        Edge.says("if 2 divides X, and there is IRON, a span is built on the PIER that is the rest of X by how many there are");
        // 33614: even, a STORM of 4, which takes 1 of wood
        Told none = Edge.with("l0,1,30,0,0;w0,1,9;");
        none.due(none.drawn(1, 2, 0), 9);
        none.due(none.drawn(1, 2, 1), 8);
        Told one = Edge.with("l0,1,30,0,1;w0,1,9;");
        one.due(one.drawn(1, 2, 0), 10);
        one.due(one.drawn(1, 2, 1), 9);
        // 564950498 is even too, but the IRON is spent; a STORM of 3
        one.due(one.drawn(2, 2, 0), 19);
        one.due(one.drawn(2, 2, 1), 8);
        Told two = Edge.with("l0,1,30,0,2;w0,1,9;");
        two.due(two.drawn(2, 2, 0), 20);
        two.due(two.drawn(2, 2, 1), 9);
    }

    static void promise25_thePierThatIsTheRestOfX() {
        Edge.says("the PIER that is the rest of X by how many there are");
        // 33614 leaves 0, 0, 2, 2, 4 by 1 to 5; what is taken tells where the span was built, ahead of the STORM
        String text = "l1,0,30,0,1;";
        int[] rest = {0, 0, 2, 2, 4};
        for (int piers = 1; piers <= 5; piers++) {
            text += "w" + piers + ",1,0;";
            Told x = Edge.with(text);
            x.due(x.drawn(1, 2, 0), rest[piers - 1] + 1);
            x.due(x.drawn(1, 2, 1), 0);
        }
    }

    static void promise25_aPierOf99() {
        Edge.says("(no PIERS, or it has 99: none)");
        // 33614 is for PIER 0 of two; wood loses 1, iron 4
        Told full = Edge.withLongPier(99, 2);
        full.due(full.drawn(1, 2, 1), 98);
        full.due(full.drawn(1, 2, 0), full.count(4) + 15 + 20);
        Told less = Edge.withLongPier(98, 2);
        less.due(less.drawn(1, 2, 1), 98);
        less.due(less.drawn(1, 2, 0), less.count(4) + 15 + 20);
        // its IRON is not spent: by 564950498, for PIER 0 again, a span is built
        full.due(full.drawn(2, 2, 1), 98);
    }

    static void promise25_theStormIsTheRestBy5() {
        Edge.says("then the SEASON, with the rest of X by 5 in place of the STORM");
        int[] seeds = {1, 3, 5, 7, 9};
        for (int seed : seeds) {
            int storm = seed * 16807 % 5;
            Told x = Edge.with("l0,0,1,9,0;i0,1,9;");
            x.due(x.drawn(1, seed, 1), 9 - storm);
            Told rusty = Edge.with("l0,0,1,9,0;r0,1,9;");
            rusty.due(rusty.drawn(1, seed, 1), 9 - storm - 1);
            rusty.seasons(1);
            rusty.due(rusty.drawn(1, seed, 1), Math.max(0, 4 - storm));
        }
    }

    static void promise25_9999AtMost() {
        Edge.says("(9999 at most)");
        Told x = Edge.inSeason(68, "l2,5,30,0,0;p7,1,3;p7,1,3;p7,1,3;p7,1,3;p7,1,3;");
        x.due(x.count(4), 9860);
        x.due(x.drawn(1, 1, 0), 9999);
        x.due(x.drawn(60, 1, 0), 9999);
    }

    static void promise25_beyondSeason999() {
        Edge.says("DECADES of n SEASONS (0 to 60)");
        Told x = Edge.inSeason(999, "l0,1,30,0,0;p0,1,1;");
        // 16807 and 282475249 leave 2 and 4 by 5
        x.due(x.drawn(2, 1, 0), 1001);
        x.due(x.drawn(2, 1, 1), 0);
        x.due(x.drawn(60, 1, 0), 1001);
    }

    // ---- images

    static void promise26_imagesAre0And1() {
        Edge.says("An IMAGE (0, 1) is kept of the COAST: 1.");
        Told x = Edge.with(Edge.FIVE);
        x.due(x.image(0), 1);
        x.due(x.image(1), 1);
        for (int k : new int[] {-1, 2, 3, Edge.LEAST, Edge.MOST}) {
            x.due(x.image(k), Edge.BAD);
        }
    }

    static void promise26_badIsAheadOfNoCoast() {
        Edge.says("BAD; STATE: no COAST.");
        Told x = new Told();
        x.due(x.image(0), Edge.STATE);
        x.due(x.image(1), Edge.STATE);
        x.due(x.image(-1), Edge.BAD);
        x.due(x.image(2), Edge.BAD);
        x.due(x.restore(0), Edge.STATE);
        x.read(Edge.BARE);
        x.due(x.image(0), 1);
    }

    static void promise26_theCoastStaysAndItsActs() {
        Edge.says("An IMAGE (0, 1) is kept of the COAST: 1.");
        Told x = Edge.with(Edge.FIVE);
        x.seasons(2);
        x.due(x.image(0), 1);
        x.due(x.count(6), 2);
        x.due(x.undo(), 1);
        x.due(x.count(2), 1);
    }

    static void promise26_anImageInPlaceOfAnother() {
        Edge.says("An IMAGE (0, 1) is kept of the COAST: 1.");
        Told x = Edge.with(Edge.FIVE);
        x.image(0);
        x.image(1);
        x.seasons(2);
        x.image(1);
        x.seasons(1);
        x.restore(1);
        x.due(x.count(2), 2);
        x.restore(0);
        x.due(x.count(2), 0);
    }

    static void promise26_aCoastWithoutPiers() {
        Edge.says("An IMAGE (0, 1) is kept of the COAST: 1.");
        Told x = Edge.with(Edge.BARE);
        x.due(x.image(0), 1);
        x.read(Edge.FIVE);
        x.due(x.image(1), 1);
        x.due(x.restore(0), 1);
        x.due(x.count(1), 0);
        x.due(x.pier(0, 0), Edge.BAD);
        x.due(x.restore(1), 1);
        x.due(x.count(1), 5);
        x.due(x.pier(4, 0), 4);
    }

    static void promise27_noneWasKept() {
        Edge.says("BAD; STATE: none was kept.");
        Told x = Edge.with(Edge.FIVE);
        x.due(x.restore(0), Edge.STATE);
        x.due(x.restore(1), Edge.STATE);
        for (int k : new int[] {-1, 2, 3, Edge.LEAST, Edge.MOST}) {
            x.due(x.restore(k), Edge.BAD);
        }
        x.image(1);
        x.due(x.restore(0), Edge.STATE);
        x.due(x.restore(1), 1);
        Told y = Edge.with(Edge.FIVE);
        y.image(0);
        y.due(y.restore(1), Edge.STATE);
        y.due(y.restore(0), 1);
    }

    static void promise27_asItWasKept() {
        Edge.says("The COAST is as an IMAGE kept it (no ACT can be undone then): 1.");
        Told x = Edge.with(Edge.FIVE);
        x.seasons(1);
        x.build(3);
        x.turn(1, 2);
        x.buy(2);
        x.image(0);
        x.seasons(3);
        x.build(3);
        x.turn(1, 0);
        x.buy(1);
        x.read("l9,9,30,9,9;p9,0,9;");
        x.due(x.restore(0), 1);
        int[] counts = {0, 5, 1, 4, 24, 7, 0, 0, 17};
        for (int what = 0; what <= 8; what++) {
            x.due(x.count(what), counts[what]);
        }
        int[][] told = {{2, 2, 3}, {7, 2, 3}, {9, 1, 6}, {0, 2, 3}, {4, 1, 2}};
        for (int pier = 0; pier < 5; pier++) {
            x.due(x.kind(pier), pier + 1);
            for (int what = 0; what <= 2; what++) {
                x.due(x.pier(pier, what), told[pier][what]);
            }
        }
        x.due(x.take(9, 9), 12);
    }

    static void promise27_noActCanBeUndone() {
        Edge.says("(no ACT can be undone then)");
        Told x = Edge.with(Edge.FIVE);
        x.seasons(24);
        x.image(0);
        x.due(x.count(6), 24);
        x.due(x.restore(0), 1);
        x.due(x.count(6), 0);
        x.due(x.undo(), Edge.STATE);
        x.seasons(1);
        x.due(x.undo(), 0);
        x.due(x.count(2), 24);
    }

    static void promise27_theImageStays() {
        Edge.says("The COAST is as an IMAGE kept it");
        Told x = Edge.with(Edge.FIVE);
        x.image(0);
        for (int k = 0; k < 3; k++) {
            x.due(x.restore(0), 1);
            x.due(x.count(5), 6);
            x.due(x.count(8), 23);
            x.due(x.pier(0, 1), 2);
            x.buildAll(0, 6);
            x.turn(0, 0);
            x.seasons(5);
            x.undo();
        }
    }

    static void promise27_whatIsNoPartOfTheCoast() {
        Edge.says("The COAST is as an IMAGE kept it");
        Told x = Edge.with(Edge.SEEING);
        x.image(0);
        x.row(3, 1, 2);
        x.setAll(3, 8, 9);
        x.read("l10");
        x.ask(0, 1);
        x.set(3, 2, 0);
        x.type("l1,2,3");
        x.due(x.restore(0), 1);
        x.due(x.status(), 2);
        x.due(x.fault(), 2);
        x.due(x.trace(0), 21);
        x.due(x.count(7), 6);
        x.dueItems(3, 8, 9);
        x.due(x.read(",4,5;"), 0);
    }
}
