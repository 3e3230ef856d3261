/** Promises 28 to 33, sentence by sentence: kinds, asks, the trace, what is counted, the status. */
public final class EdgesOfAsks {
    private static final int[] NO_PIERS_OF_FIVE = {-1, 5, 6, Edge.LEAST, Edge.MOST};

    public static void main(String[] args) {
        Edge.run(EdgesOfAsks.class);
    }

    // ---- kind, as

    static void promise28_kindsAre1To5() {
        Edge.says("The KIND of a PIER, as told (1 to 5). BAD.");
        Told x = Edge.with(Edge.FIVE);
        for (int pier = 0; pier < 5; pier++) {
            x.due(x.kind(pier), pier + 1);
        }
        x.seasons(24);
        x.turn(0, 1);
        x.build(4);
        for (int pier = 0; pier < 5; pier++) {
            x.due(x.kind(pier), pier + 1);
        }
    }

    static void promise28_piersThatAreThere() {
        Edge.says("The KIND of a PIER, as told (1 to 5). BAD.");
        Told x = new Told();
        x.due(x.kind(0), Edge.BAD);
        String text = Edge.BARE;
        for (int piers = 0; piers <= 5; piers++) {
            x = Edge.with(text);
            for (int pier = 0; pier <= 5; pier++) {
                x.due(x.kind(pier), pier < piers ? 5 : Edge.BAD);
            }
            x.due(x.kind(-1), Edge.BAD);
            x.due(x.kind(Edge.LEAST), Edge.BAD);
            x.due(x.kind(Edge.MOST), Edge.BAD);
            text += "p0,1,1;";
        }
    }

    static void promise29_whatEachKindIs() {
        Edge.says("0 PIER; 1 IRONS, a PIER; 2 CAST, an IRONS; 3 RUSTY, an IRONS; 4 WOODEN, a PIER; 5 PILED, a WOODEN",
            "A PIER is taken as one of a KIND (0 .. 5): its number. BAD; KIND: it is no such one.");
        Told x = Edge.with(Edge.FIVE);
        String[] kinds = {"01", "012", "013", "04", "045"};
        for (int pier = 0; pier < 5; pier++) {
            for (int kind = 0; kind <= 5; kind++) {
                boolean isOne = kinds[pier].indexOf('0' + kind) >= 0;
                x.due(x.as(pier, kind), isOne ? pier : Edge.KIND);
                x.due(x.status(), isOne ? 0 : 3);
            }
        }
    }

    static void promise29_kindsAre0To5() {
        Edge.says("one of a KIND (0 .. 5)", "BAD; KIND: it is no such one.");
        Told x = Edge.with(Edge.FIVE);
        x.as(0, 5);
        for (int kind : new int[] {-1, 6, 7, Edge.LEAST, Edge.MOST}) {
            x.due(x.as(0, kind), Edge.BAD);
            x.due(x.as(4, kind), Edge.BAD);
            x.due(x.status(), 3);
        }
    }

    static void promise29_badIsAheadOfKind() {
        Edge.says("BAD; KIND: it is no such one.");
        Told x = Edge.with("l0,0,1,0,0;i0,1,1;w0,1,1;");
        x.due(x.as(0, 4), Edge.KIND);
        x.due(x.as(1, 1), Edge.KIND);
        x.due(x.as(2, 4), Edge.BAD);
        x.due(x.as(-1, 4), Edge.BAD);
        x.due(x.as(2, 6), Edge.BAD);
        x.due(x.as(Edge.MOST, 0), Edge.BAD);
        x.due(x.as(Edge.LEAST, 0), Edge.BAD);
        x.read(Edge.BARE);
        x.due(x.as(0, 0), Edge.BAD);
    }

    // ---- ask, trace

    private static void dueAsk(Told x, int pier, int what, int answer, int... bodies) {
        x.due(x.ask(pier, what), answer);
        for (int i = 0; i <= 16; i++) {
            x.due(x.trace(i), i < bodies.length ? bodies[i] : Edge.NONE);
        }
    }

    static void promise30_sizeOfEachKind() {
        Edge.says("0 SIZE: 10 lent to all PIERS: FROM. 11 of IRONS: what 10 gives, and MARK. 12 of CAST ones: 0 less what 11 gives.",
            "13 of WOODEN ones: what 10 gives, less 100. 14 of PILED ones: what 13 gives, twice.");
        Told x = Edge.with(Edge.FIVE);
        dueAsk(x, 0, 0, 2 + 0 + 5, 11, 10, 21, 20);
        dueAsk(x, 1, 0, -(7 + 2 * (1 + 4)), 12, 11, 10, 24, 21, 20);
        dueAsk(x, 2, 0, 9 + 2 + 9 - 1000, 11, 10, 22, 21, 20);
        dueAsk(x, 3, 0, 0 - 100, 13, 10);
        dueAsk(x, 4, 0, 2 * (4 - 100), 14, 13, 10);
    }

    static void promise30_markOfEachKind() {
        Edge.says("1 MARK: 20 lent to all PIERS: the number. 21 of IRONS: what 20 gives, and SPANS. 22 of RUSTY ones: what 21 gives, less 1000.",
            "23 of WOODEN ones: what 20 gives, less SIZE. 24 of CAST ones: what 21 gives, twice.");
        Told x = Edge.with(Edge.FIVE);
        dueAsk(x, 0, 1, 0 + 5, 21, 20);
        dueAsk(x, 1, 1, 2 * (1 + 4), 24, 21, 20);
        dueAsk(x, 2, 1, 2 + 9 - 1000, 22, 21, 20);
        dueAsk(x, 3, 1, 3 + 100, 23, 20, 13, 10);
        dueAsk(x, 4, 1, 4 - 2 * (4 - 100), 23, 20, 14, 13, 10);
    }

    static void promise30_askedAnewOfTheSamePier() {
        Edge.says("Of an ask the BODY told for the KIND begins, else that of the nearest KIND that it is, too, else the one that is lent; "
            + "SIZE, MARK within others are asked of the same PIER anew");
        // the KINDS in other places than in FIVE: the number and FROM are their own
        Told x = Edge.with("l0,0,1,0,0;p9,1,1;c8,1,2;r7,1,3;w6,1,4;i5,1,5;");
        dueAsk(x, 0, 1, 0 - 2 * (9 - 100), 23, 20, 14, 13, 10);
        dueAsk(x, 1, 0, -(8 + 2 * (1 + 2)), 12, 11, 10, 24, 21, 20);
        dueAsk(x, 2, 0, 7 + 2 + 3 - 1000, 11, 10, 22, 21, 20);
        dueAsk(x, 3, 1, 3 - (6 - 100), 23, 20, 13, 10);
        dueAsk(x, 4, 0, 5 + 4 + 5, 11, 10, 21, 20);
    }

    static void promise30_spansAtTheLimits() {
        Edge.says("21 of IRONS: what 20 gives, and SPANS");
        Told x = Edge.with("l0,0,1,4,0;c9,1,4;i0,1,0;");
        dueAsk(x, 1, 1, 1, 21, 20);
        dueAsk(x, 0, 1, 8, 24, 21, 20);
        x.seasons(24);
        dueAsk(x, 0, 1, 0, 24, 21, 20);
        dueAsk(x, 0, 0, -9, 12, 11, 10, 24, 21, 20);
        Told high = Edge.inSeason(60, "l0,1,30,0,9;i0,1,9;");
        high.buyAll(81);
        high.buildAll(0, 90);
        high.due(high.pier(0, 2), 99);
        dueAsk(high, 0, 1, 99, 21, 20);
    }

    static void promise30_asksAre0And1() {
        Edge.says("An ASK (0, 1) of a PIER. BAD.");
        Told x = Edge.with(Edge.FIVE);
        for (int what : new int[] {-1, 2, 3, Edge.LEAST, Edge.MOST}) {
            x.due(x.ask(0, what), Edge.BAD);
        }
        for (int pier : NO_PIERS_OF_FIVE) {
            x.due(x.ask(pier, 0), Edge.BAD);
            x.due(x.ask(pier, 2), Edge.BAD);
        }
        x.due(x.trace(0), Edge.NONE);
        x.read(Edge.BARE);
        x.due(x.ask(0, 0), Edge.BAD);
    }

    static void promise30_theTraceIsEmptyAhead() {
        Edge.says("THE TRACE is empty ahead of it.");
        Told x = Edge.with(Edge.FIVE);
        dueAsk(x, 1, 0, -17, 12, 11, 10, 24, 21, 20);
        dueAsk(x, 3, 0, -100, 13, 10);
        dueAsk(x, 3, 0, -100, 13, 10);
        dueAsk(x, 1, 0, -17, 12, 11, 10, 24, 21, 20);
    }

    static void promise30_aBadAskLeavesTheTrace() {
        Edge.says("What is refused, or found, changes nothing but status().");
        Told x = Edge.with(Edge.FIVE);
        x.ask(0, 1);
        x.due(x.ask(0, 2), Edge.BAD);
        x.due(x.ask(5, 0), Edge.BAD);
        x.due(x.ask(-1, 0), Edge.BAD);
        x.due(x.trace(0), 21);
        x.due(x.trace(1), 20);
        x.due(x.trace(2), Edge.NONE);
    }

    static void promise31_noneBeforeAnAsk() {
        Edge.says("Number i of THE TRACE; NONE.");
        Told x = new Told();
        x.due(x.trace(0), Edge.NONE);
        x.read(Edge.FIVE);
        x.due(x.trace(0), Edge.NONE);
        x.as(0, 0);
        x.kind(0);
        x.due(x.trace(0), Edge.NONE);
    }

    static void promise31_beforeAndBehindIt() {
        Edge.says("Number i of THE TRACE; NONE.", "THE TRACE as it begins (the first 16)");
        Told x = Edge.with(Edge.FIVE);
        x.ask(1, 0);
        int[] bodies = {12, 11, 10, 24, 21, 20};
        for (int i = 0; i < 6; i++) {
            x.due(x.trace(i), bodies[i]);
        }
        for (int i : new int[] {6, 7, 15, 16, 17, -1, -2, -16, Edge.LEAST, Edge.MOST}) {
            x.due(x.trace(i), Edge.NONE);
        }
    }

    static void promise31_itStays() {
        Edge.says("Number i of THE TRACE; NONE.");
        Told x = Edge.with(Edge.FIVE);
        x.ask(0, 1);
        x.trace(0);
        x.seasons(1);
        x.undo();
        x.image(0);
        x.restore(0);
        x.read(Edge.BARE);
        x.due(x.trace(0), 21);
        x.due(x.trace(1), 20);
        x.due(x.trace(2), Edge.NONE);
    }

    // ---- count

    static void promise32_whatIs0To8() {
        Edge.says("0 ROWS, 1 PIERS, 2 the SEASON, 3 the STORM of this SEASON, 4 PURSE, 5 IRON, 6 ACTS that can be undone, 7 bytes on the tape, 8 all SPANS");
        Told x = new Told();
        for (int what : new int[] {-1, 9, 10, Edge.LEAST, Edge.MOST}) {
            x.due(x.count(what), Edge.BAD);
        }
        x.read(Edge.FIVE);
        for (int what : new int[] {-1, 9, 10, Edge.LEAST, Edge.MOST}) {
            x.due(x.count(what), Edge.BAD);
        }
        x.row(6, 0, 0);
        x.seasons(3);
        x.type("lll");
        int[] counts = {1, 5, 3, 3, 97, 6, 3, 3, 2};
        for (int what = 0; what <= 8; what++) {
            x.due(x.count(what), counts[what]);
        }
    }

    static void promise32_fullRowsAndTape() {
        Edge.says("How many: 0 ROWS", "7 bytes on the tape");
        Told x = Edge.withTape(100);
        for (int row = 0; row < 8; row++) {
            x.row(row, 0, row * 5);
            x.due(x.count(0), row + 1);
        }
        x.row(0, 1, 40);
        x.due(x.count(0), 8);
        x.due(x.count(7), 100);
        for (int row = 7; row >= 0; row--) {
            x.drop(row);
            x.due(x.count(0), row);
        }
    }

    static void promise32_atTheLimits() {
        Edge.says("2 the SEASON, 3 the STORM of this SEASON, 4 PURSE, 5 IRON, 6 ACTS that can be undone");
        Told late = Edge.inSeason(999, Edge.BARE);
        late.due(late.count(2), 999);
        late.due(late.count(6), 24);
        Told rich = Edge.inSeason(80, Edge.RICH);
        rich.due(rich.count(4), 9999);
        rich.buyAll(90);
        rich.due(rich.count(5), 99);
        rich.due(rich.count(4), 9549);
        Told stormy = Edge.inSeason(3, "l0,0,1,1,0;");
        stormy.due(stormy.count(3), 4);
        stormy.seasons(1);
        stormy.due(stormy.count(3), 0);
    }

    static void promise32_allSpans() {
        Edge.says("8 all SPANS");
        Told x = Edge.with("l0,0,1,4,9;i0,1,9;c0,1,9;r0,1,9;w0,1,9;p0,1,9;");
        x.due(x.count(8), 45);
        x.build(4);
        x.due(x.count(8), 46);
        x.seasons(1);
        x.due(x.count(8), 46 - 4 - 2 - 5 - 1 - 1);
        x.pass(100);
        x.due(x.count(8), 0);
        x.read(Edge.BARE);
        x.due(x.count(8), 0);
    }

    // ---- status

    static void promise33_noneAtFirst() {
        Edge.says("0: it had none, or there was none.");
        Told x = new Told();
        x.due(x.status(), 0);
        x.row(8, 0, 0);
        x.row(0, 0, 41);
        x.set(-1, 0, 0);
        x.copy(0, 0, 8, 0, 0);
        x.drop(8);
        x.as(0, 0);
        x.fits(0, 0, 0, 1, 0);
        x.due(x.status(), 0);
    }

    static void promise33_eachFinding() {
        Edge.says("1 NULL (a ROW that is missing), 2 PLACE (no such place of a ROW), 3 KIND (a PIER that is not that), 4 SIZE (fewer than none), 5 STORE (ROWS of two LANES)");
        Told x = Edge.with(Edge.FIVE);
        x.row(0, 0, 2);
        x.row(1, 1, 2);
        x.due(x.set(2, 0, 0), -1000010 - 1);
        x.due(x.status(), 1);
        x.due(x.set(0, 2, 0), -1000010 - 2);
        x.due(x.status(), 2);
        x.due(x.as(0, 2), -1000010 - 3);
        x.due(x.status(), 3);
        x.due(x.row(0, 0, -1), -1000010 - 4);
        x.due(x.status(), 4);
        x.due(x.copy(0, 0, 1, 0, 1), -1000010 - 5);
        x.due(x.status(), 5);
        x.due(x.status(), 5);
    }

    static void promise33_itHadNone() {
        Edge.says("0: it had none");
        Told x = Edge.with(Edge.CALM);
        for (int call = 0; call < 6; call++) {
            x.set(7, 0, 0);
            x.due(x.status(), 1);
            int answer = call == 0 ? x.row(0, 0, 3)
                : call == 1 ? x.set(0, 0, 20)
                : call == 2 ? x.copy(0, 0, 0, 0, 0)
                : call == 3 ? x.fits(0, 0, 0, 1, 0)
                : call == 4 ? x.as(0, 1)
                : x.drop(0);
            Edge.check(answer >= 0, x.latest() + " answered " + answer);
            x.due(x.status(), 0);
        }
    }

    static void promise33_eachCallWithARow() {
        Edge.says("Of the latest call with a ROW, or as(), that was not BAD, STATE, FULL: the number of its FINDING");
        Told x = Edge.with(Edge.CALM);
        x.row(0, 0, 1);
        x.due(x.drop(7), Edge.NULL);
        x.due(x.status(), 1);
        x.due(x.copy(0, 1, 0, 0, 1), Edge.PLACE);
        x.due(x.status(), 2);
        x.due(x.copy(0, 0, 7, 0, 1), Edge.NULL);
        x.due(x.status(), 1);
        x.due(x.fits(0, 0, 1, 1, 0), Edge.PLACE);
        x.due(x.status(), 2);
        x.due(x.fits(0, 7, 0, 1, 0), Edge.NULL);
        x.due(x.status(), 1);
    }

    static void promise33_badLeavesIt() {
        Edge.says("that was not BAD, STATE, FULL");
        Told x = Edge.with(Edge.CALM);
        x.row(0, 0, 1);
        x.row(1, 1, 1);
        x.copy(0, 0, 1, 0, 1);
        x.due(x.row(8, 0, 0), Edge.BAD);
        x.due(x.status(), 5);
        x.due(x.row(0, 0, 41), Edge.BAD);
        x.due(x.status(), 5);
        x.due(x.set(8, 0, 0), Edge.BAD);
        x.due(x.status(), 5);
        x.due(x.copy(0, 0, 8, 0, 0), Edge.BAD);
        x.due(x.status(), 5);
        x.due(x.drop(-1), Edge.BAD);
        x.due(x.status(), 5);
        x.due(x.fits(0, 0, 0, 17, 0), Edge.BAD);
        x.due(x.status(), 5);
        x.due(x.as(0, 6), Edge.BAD);
        x.due(x.status(), 5);
    }

    static void promise33_otherCallsLeaveIt() {
        Edge.says("Of the latest call with a ROW, or as()");
        for (int finding = 0; finding <= 1; finding++) {
            Told x = Edge.with(Edge.FIVE);
            x.row(0, 0, 1);
            x.set(0, finding, 0);
            int status = 2 * finding;
            x.seasons(1);
            x.seasons(25);
            x.build(0);
            x.build(9);
            x.turn(0, 0);
            x.turn(0, 0);
            x.buy(1);
            x.buy(20);
            x.undo();
            x.due(x.status(), status);
            x.pier(0, 0);
            x.ahead(0, 1, 0);
            x.purse(1);
            x.gone(0);
            x.aim(0, 0, 1, 0);
            x.take(0, 1);
            x.give(1, 0);
            x.turning(1, 0);
            x.cross(0);
            x.fire(1, 1, 0);
            x.drawn(1, 1, 0);
            x.due(x.status(), status);
            x.image(0);
            x.restore(0);
            x.restore(1);
            x.kind(0);
            x.ask(0, 0);
            x.trace(0);
            x.trace(99);
            x.count(0);
            x.count(9);
            x.due(x.status(), status);
            x.read(Edge.BARE);
            x.coast();
            x.fault();
            x.feed(256);
            x.undo();
            x.due(x.status(), status);
        }
    }
}
