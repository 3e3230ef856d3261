/** Promises 1 to 5, sentence by sentence: what is least, greatest, empty, full, and what goes round about. */
public final class EdgesOfRows {
    private static final int[] NO_ROWS = {-1, 8, 9, -8, 256, Edge.LEAST, Edge.MOST};

    public static void main(String[] args) {
        Edge.run(EdgesOfRows.class);
    }

    // ---- a new object

    static void promise01_noCoastIsAheadOfBad() {
        Edge.says("No COAST.", "(none at first)");
        Told x = new Told();
        for (int n : new int[] {0, 1, 24, 25, -1, 61, Edge.LEAST, Edge.MOST}) {
            x.due(x.seasons(n), Edge.STATE);
            x.due(x.buy(n), Edge.STATE);
            x.due(x.purse(n), Edge.STATE);
            x.due(x.take(n, n), Edge.STATE);
            x.due(x.give(n, n), Edge.STATE);
            x.due(x.turning(n, n), Edge.STATE);
            x.due(x.cross(n), Edge.STATE);
            x.due(x.fire(n, n, n), Edge.STATE);
            x.due(x.drawn(n, n, n), Edge.STATE);
        }
    }

    static void promise01_noPierIsThere() {
        Edge.says("No COAST.", "BAD (a number is not as told; there is no such thing)");
        Told x = new Told();
        x.row(0, 0, 1);
        for (int pier = -1; pier <= 5; pier++) {
            x.due(x.build(pier), Edge.BAD);
            x.due(x.turn(pier, 0), Edge.BAD);
            x.due(x.pier(pier, 0), Edge.BAD);
            x.due(x.ahead(pier, 0, 0), Edge.BAD);
            x.due(x.gone(pier), Edge.BAD);
            x.due(x.aim(pier, 0, 1, 0), Edge.BAD);
            x.due(x.fits(pier, 0, 0, 1, 0), Edge.BAD);
            x.due(x.kind(pier), Edge.BAD);
            x.due(x.as(pier, 0), Edge.BAD);
            x.due(x.ask(pier, 0), Edge.BAD);
        }
    }

    static void promise01_nothingIsThereAtFirst() {
        Edge.says("No COAST.", "ROWS 0 .. 7 are missing (at first)");
        Told x = new Told();
        x.due(x.status(), 0);
        x.due(x.fault(), 0);
        x.due(x.trace(0), Edge.NONE);
        for (int what = 0; what <= 8; what++) {
            x.due(x.count(what), 0);
        }
        x.due(x.undo(), Edge.STATE);
        x.due(x.image(0), Edge.STATE);
        x.due(x.image(1), Edge.STATE);
        x.due(x.restore(0), Edge.STATE);
        x.due(x.restore(1), Edge.STATE);
        for (int row = 0; row <= 7; row++) {
            x.due(x.drop(row), Edge.NULL);
            x.due(x.set(row, 0, 0), Edge.NULL);
        }
    }

    static void promise01_objectsShareNothing() {
        Edge.says("No COAST.");
        Told one = Edge.with(Edge.FIVE);
        one.row(0, 0, 3);
        one.image(0);
        one.seasons(2);
        one.ask(0, 0);
        one.as(0, 5);
        one.feed('l');
        Told other = new Told();
        for (int what = 0; what <= 8; what++) {
            other.due(other.count(what), 0);
        }
        other.due(other.status(), 0);
        other.due(other.trace(0), Edge.NONE);
        other.due(other.restore(0), Edge.STATE);
        other.due(other.read(Edge.BARE), 0);
        one.due(one.count(1), 5);
        one.due(one.count(7), 1);
    }

    // ---- row

    static void promise02_rowsAre0To7() {
        Edge.says("ROWS 0 .. 7", "BAD: ROW, LANE, n above 40; SIZE.");
        Told x = new Told();
        for (int row = 0; row <= 7; row++) {
            x.due(x.row(row, 0, row), row);
            x.due(x.count(0), row + 1);
        }
        for (int row : NO_ROWS) {
            x.due(x.row(row, 0, 1), Edge.BAD);
        }
        x.due(x.count(0), 8);
    }

    static void promise02_lanesAre0To2() {
        Edge.says("a LANE (0 bytes, 1 shorts, 2 ints)", "BAD: ROW, LANE, n above 40; SIZE.");
        Told x = new Told();
        for (int lane = 0; lane <= 2; lane++) {
            x.due(x.row(lane, lane, 1), 1);
        }
        for (int lane : new int[] {-1, 3, 4, Edge.LEAST, Edge.MOST}) {
            x.due(x.row(3, lane, 1), Edge.BAD);
        }
        x.due(x.drop(3), Edge.NULL);
    }

    static void promise02_itemsAre0To40() {
        Edge.says("0 to 40 ITEMS", "n above 40", "4 SIZE (fewer than none)");
        Told x = new Told();
        for (int lane = 0; lane <= 2; lane++) {
            x.due(x.row(0, lane, 0), 0);
            x.due(x.row(1, lane, 1), 1);
            x.due(x.row(2, lane, 39), 39);
            x.due(x.row(3, lane, 40), 40);
            x.due(x.row(4, lane, 41), Edge.BAD);
            x.due(x.row(4, lane, Edge.MOST), Edge.BAD);
            x.due(x.row(4, lane, -1), Edge.SIZE);
            x.due(x.status(), 4);
            x.due(x.row(4, lane, Edge.LEAST), Edge.SIZE);
        }
        x.due(x.count(0), 4);
        x.due(x.drop(4), Edge.NULL);
    }

    static void promise02_badIsAheadOfSize() {
        Edge.says("the first of these that fits", "BAD: ROW, LANE, n above 40; SIZE.");
        Told x = new Told();
        x.due(x.row(8, 0, -1), Edge.BAD);
        x.due(x.row(-1, 0, -1), Edge.BAD);
        x.due(x.row(0, 3, -1), Edge.BAD);
        x.due(x.row(0, -1, -1), Edge.BAD);
        x.due(x.row(8, 3, 41), Edge.BAD);
        x.due(x.status(), 0);
    }

    static void promise02_itemsAre0AtFirst() {
        Edge.says("0 to 40 ITEMS, 0 at first");
        Told x = Edge.with("l0,0,1,0,0;i0,1,0;");
        for (int lane = 0; lane <= 2; lane++) {
            x.row(6, lane, 40);
            for (int i = 0; i < 40; i++) {
                x.set(6, i, 77);
            }
            x.row(6, lane, 40);
            // this COAST takes nothing, whatever FROM is: a row of 0 fits all ten
            x.due(x.fits(0, 6, 0, 16, 0), 1023);
            x.due(x.fits(0, 6, 16, 16, 0), 1023);
            x.due(x.fits(0, 6, 24, 16, 0), 1023);
        }
    }

    static void promise02_aRowComesInPlaceOfWhatIsThere() {
        Edge.says("A ROW of a LANE with n ITEMS, in place of what is there: n.");
        Told x = Edge.with(Edge.SEEING);
        x.row(5, 2, 4);
        x.setAll(5, 11, 12, 13, 14);
        x.due(x.row(5, 0, 2), 2);
        x.due(x.count(0), 1);
        x.dueItems(5, 0, 0, Edge.PLACE);
        x.due(x.set(5, 0, 128), -128);
        x.due(x.row(5, 0, 4), 4);
        x.dueItems(5, 0, 0, 0, 0, Edge.PLACE);
        x.due(x.row(5, 1, 0), 0);
        x.dueItems(5, Edge.PLACE);
        x.due(x.drop(5), 0);
    }

    static void promise02_otherRowsStay() {
        Edge.says("A ROW of a LANE with n ITEMS, in place of what is there: n.");
        Told x = Edge.with(Edge.SEEING);
        x.row(3, 0, 40);
        x.row(5, 1, 40);
        x.set(3, 0, 1);
        x.set(3, 39, 2);
        x.set(5, 0, 3);
        x.set(5, 39, 4);
        x.row(4, 2, 40);
        x.row(4, 0, 0);
        x.due(x.seen(3, 0), 1);
        x.due(x.seen(3, 39), 2);
        x.due(x.seen(5, 0), 3);
        x.due(x.seen(5, 39), 4);
    }

    static void promise02_aRowOfNoneIsNotMissing() {
        Edge.says("0 to 40 ITEMS", "1 NULL (a ROW that is missing)");
        Told x = Edge.with(Edge.SEEING);
        x.due(x.row(0, 1, 0), 0);
        x.due(x.count(0), 1);
        x.due(x.set(0, 0, 1), Edge.PLACE);
        x.due(x.copy(0, 0, 0, 0, 0), 0);
        x.due(x.fits(0, 0, 0, 1, 0), Edge.PLACE);
        x.due(x.drop(0), 0);
        x.due(x.drop(0), Edge.NULL);
    }

    // ---- set

    static void promise03_bytesGoRoundAbout() {
        Edge.says("ITEM i becomes v, its lowest bits, as many as the LANE has: what it is then.");
        Told x = new Told();
        x.row(0, 0, 1);
        int[][] kept = {{0, 0}, {127, 127}, {128, -128}, {255, -1}, {256, 0}, {257, 1}, {-1, -1}, {-128, -128},
            {-129, 127}, {-256, 0}, {32767, -1}, {32768, 0}, {65535, -1}, {Edge.MOST, -1}, {Edge.LEAST, 0}};
        for (int[] one : kept) {
            x.due(x.set(0, 0, one[0]), one[1]);
        }
    }

    static void promise03_shortsGoRoundAbout() {
        Edge.says("its lowest bits, as many as the LANE has");
        Told x = new Told();
        x.row(0, 1, 1);
        int[][] kept = {{0, 0}, {128, 128}, {255, 255}, {32767, 32767}, {32768, -32768}, {65535, -1}, {65536, 0},
            {65537, 1}, {-1, -1}, {-129, -129}, {-32768, -32768}, {-32769, 32767}, {-65536, 0}, {Edge.MOST, -1},
            {Edge.LEAST, 0}};
        for (int[] one : kept) {
            x.due(x.set(0, 0, one[0]), one[1]);
        }
    }

    static void promise03_intsStayWhole() {
        Edge.says("its lowest bits, as many as the LANE has");
        Told x = new Told();
        x.row(0, 2, 1);
        for (int v : new int[] {0, 128, -129, 32768, 65536, -32769, Edge.MOST, Edge.LEAST}) {
            x.due(x.set(0, 0, v), v);
        }
    }

    static void promise03_whatIsKeptIsWhatIsAnswered() {
        Edge.says("ITEM i becomes v, its lowest bits");
        Told x = Edge.with(Edge.SEEING);
        for (int lane = 0; lane <= 2; lane++) {
            x.row(lane, lane, 3);
        }
        x.setAll(0, 256 + 7, -256 + 29, 128);
        x.dueItems(0, 7, 29, -1);
        x.setAll(1, 65536 + 8, -65536, 256 + 7);
        x.dueItems(1, 8, 0, -1);
        x.setAll(2, 9, 65536 + 9, -9);
        x.dueItems(2, 9, -1, -1);
    }

    static void promise03_placesGoFrom0ToTheLast() {
        Edge.says("2 PLACE (no such place of a ROW)");
        Told x = new Told();
        for (int n : new int[] {0, 1, 2, 39, 40}) {
            x.row(0, 0, n);
            for (int i = 0; i < n; i++) {
                x.due(x.set(0, i, i), i);
            }
            x.due(x.set(0, n, 0), Edge.PLACE);
            x.due(x.set(0, n + 1, 0), Edge.PLACE);
            x.due(x.set(0, 40, 0), Edge.PLACE);
            x.due(x.set(0, -1, 0), Edge.PLACE);
            x.due(x.set(0, Edge.LEAST, 0), Edge.PLACE);
            x.due(x.set(0, Edge.MOST, 0), Edge.PLACE);
        }
    }

    static void promise03_onlyThatItemIsSet() {
        Edge.says("ITEM i becomes v");
        Told x = Edge.with(Edge.SEEING);
        for (int row = 2; row <= 4; row++) {
            x.row(row, 0, 40);
        }
        x.set(3, 0, 5);
        x.set(3, 39, 6);
        x.set(3, 40, 7);
        x.set(3, -1, 8);
        for (int i : new int[] {0, 1, 20, 38, 39}) {
            x.due(x.seen(2, i), 0);
            x.due(x.seen(3, i), i == 0 ? 5 : i == 39 ? 6 : 0);
            x.due(x.seen(4, i), 0);
        }
    }

    static void promise03_aMissingRowIsNull() {
        Edge.says("BAD: ROW; NULL; PLACE.");
        Told x = new Told();
        x.row(0, 0, 3);
        for (int row = 1; row <= 7; row++) {
            x.due(x.set(row, 0, 1), Edge.NULL);
            x.due(x.status(), 1);
        }
    }

    static void promise03_badThenNullThenPlace() {
        Edge.says("BAD: ROW; NULL; PLACE.", "the first of these that fits");
        Told x = new Told();
        for (int row : NO_ROWS) {
            x.due(x.set(row, 0, 1), Edge.BAD);
            x.due(x.set(row, -1, 1), Edge.BAD);
        }
        x.due(x.set(7, -1, 1), Edge.NULL);
        x.due(x.set(7, 40, 1), Edge.NULL);
        x.row(7, 0, 1);
        x.due(x.set(7, -1, 1), Edge.PLACE);
        x.due(x.status(), 2);
    }

    // ---- copy

    static void promise04_noneToAll40() {
        Edge.says("n ITEMS of a from i on come to b from j on");
        Told x = Edge.with(Edge.SEEING);
        x.row(0, 1, 40);
        x.row(7, 1, 40);
        for (int i = 0; i < 40; i++) {
            x.set(0, i, i % 30);
        }
        x.due(x.copy(0, 0, 7, 0, 0), 0);
        x.due(x.seen(7, 1), 0);
        x.due(x.copy(0, 0, 7, 0, 40), 40);
        for (int i = 0; i < 40; i++) {
            x.due(x.seen(7, i), i % 30);
        }
        x.due(x.copy(0, 0, 7, 0, 41), Edge.PLACE);
        x.due(x.copy(0, 39, 7, 0, 1), 1);
        x.due(x.seen(7, 0), 9);
        x.due(x.copy(0, 0, 7, 39, 1), 1);
        x.due(x.seen(7, 39), 0);
    }

    static void promise04_noneAtTheEnds() {
        Edge.says("PLACE (i, j, n below 0, or beyond an end)");
        Told x = new Told();
        x.row(0, 0, 0);
        x.row(1, 0, 3);
        x.row(2, 0, 40);
        x.due(x.copy(0, 0, 0, 0, 0), 0);
        x.due(x.copy(0, 0, 1, 3, 0), 0);
        x.due(x.copy(1, 3, 2, 40, 0), 0);
        x.due(x.copy(2, 40, 1, 0, 0), 0);
        x.due(x.copy(0, 1, 1, 0, 0), Edge.PLACE);
        x.due(x.copy(1, 4, 2, 0, 0), Edge.PLACE);
        x.due(x.copy(1, 0, 0, 1, 0), Edge.PLACE);
        x.due(x.copy(1, 0, 2, 41, 0), Edge.PLACE);
        x.due(x.copy(0, 0, 1, 0, 1), Edge.PLACE);
        x.due(x.copy(1, 0, 0, 0, 1), Edge.PLACE);
    }

    static void promise04_belowNone() {
        Edge.says("i, j, n below 0");
        Told x = new Told();
        x.row(0, 2, 5);
        x.row(1, 2, 5);
        for (int below : new int[] {-1, -5, Edge.LEAST}) {
            x.due(x.copy(0, below, 1, 0, 1), Edge.PLACE);
            x.due(x.copy(0, 0, 1, below, 1), Edge.PLACE);
            x.due(x.copy(0, 3, 1, 3, below), Edge.PLACE);
            x.due(x.copy(0, below, 1, 0, 0), Edge.PLACE);
            x.due(x.copy(0, 0, 1, below, 0), Edge.PLACE);
            x.due(x.copy(0, 0, 0, 0, below), Edge.PLACE);
        }
    }

    static void promise04_beyondAnEnd() {
        Edge.says("or beyond an end");
        Told x = new Told();
        x.row(0, 0, 5);
        x.row(1, 0, 7);
        x.due(x.copy(0, 0, 1, 0, 5), 5);
        x.due(x.copy(0, 0, 1, 2, 5), 5);
        x.due(x.copy(0, 0, 1, 3, 5), Edge.PLACE);
        x.due(x.copy(0, 0, 1, 0, 6), Edge.PLACE);
        x.due(x.copy(0, 1, 1, 0, 5), Edge.PLACE);
        x.due(x.copy(0, 1, 1, 0, 4), 4);
        x.due(x.copy(1, 0, 0, 0, 6), Edge.PLACE);
        x.due(x.copy(1, 2, 0, 0, 5), 5);
        x.due(x.copy(1, 3, 0, 0, 5), Edge.PLACE);
        x.due(x.copy(1, 2, 0, 1, 5), Edge.PLACE);
        x.due(x.copy(0, 4, 1, 6, 1), 1);
        x.due(x.copy(0, 5, 1, 6, 1), Edge.PLACE);
        x.due(x.copy(0, 4, 1, 7, 1), Edge.PLACE);
    }

    static void promise04_sumsThatGoBeyondAnInt() {
        Edge.says("or beyond an end");
        Told x = new Told();
        x.row(0, 0, 5);
        x.row(1, 0, 5);
        x.due(x.copy(0, Edge.MOST, 1, 0, 1), Edge.PLACE);
        x.due(x.copy(0, 0, 1, Edge.MOST, 1), Edge.PLACE);
        x.due(x.copy(0, 1, 1, 1, Edge.MOST), Edge.PLACE);
        x.due(x.copy(0, Edge.MOST, 1, Edge.MOST, Edge.MOST), Edge.PLACE);
        x.due(x.copy(0, Edge.MOST, 1, 0, 0), Edge.PLACE);
        x.due(x.copy(0, 0, 1, Edge.MOST, 0), Edge.PLACE);
        x.due(x.copy(0, Edge.LEAST, 1, 0, Edge.LEAST), Edge.PLACE);
    }

    static void promise04_asTheyWereAhead() {
        Edge.says("as they were ahead: n");
        Told x = Edge.with(Edge.SEEING);
        x.row(0, 0, 6);
        x.setAll(0, 1, 2, 3, 4, 5, 6);
        x.due(x.copy(0, 0, 0, 1, 5), 5);
        x.dueItems(0, 1, 1, 2, 3, 4, 5);
        x.setAll(0, 1, 2, 3, 4, 5, 6);
        x.due(x.copy(0, 1, 0, 0, 5), 5);
        x.dueItems(0, 2, 3, 4, 5, 6, 6);
        x.due(x.copy(0, 0, 0, 2, 4), 4);
        x.dueItems(0, 2, 3, 2, 3, 4, 5);
        x.due(x.copy(0, 0, 0, 0, 6), 6);
        x.dueItems(0, 2, 3, 2, 3, 4, 5);
    }

    static void promise04_whatIsNotCopiedToStays() {
        Edge.says("n ITEMS of a from i on come to b from j on");
        Told x = Edge.with(Edge.SEEING);
        x.row(2, 1, 4);
        x.row(4, 1, 5);
        x.setAll(2, 1, 2, 3, 4);
        x.setAll(4, 11, 12, 13, 14, 15);
        x.due(x.copy(2, 1, 4, 2, 2), 2);
        x.dueItems(2, 1, 2, 3, 4);
        x.dueItems(4, 11, 12, 2, 3, 15);
        x.set(2, 1, 9);
        x.due(x.seen(4, 2), 2);
    }

    static void promise04_nothingIsCopiedWhenFound() {
        Edge.says("What is refused, or found, changes nothing but status().");
        Told x = Edge.with(Edge.SEEING);
        x.row(0, 0, 4);
        x.row(1, 0, 3);
        x.row(2, 1, 3);
        x.setAll(0, 1, 2, 3, 4);
        x.setAll(1, 11, 12, 13);
        x.setAll(2, 21, 22, 23);
        x.due(x.copy(0, 0, 1, 0, 4), Edge.PLACE);
        x.due(x.copy(0, 2, 1, 0, 3), Edge.PLACE);
        x.due(x.copy(0, 0, 1, 1, 3), Edge.PLACE);
        x.due(x.copy(0, 0, 2, 0, 3), Edge.STORE);
        x.dueItems(0, 1, 2, 3, 4);
        x.dueItems(1, 11, 12, 13);
        x.dueItems(2, 21, 22, 23);
    }

    static void promise04_lanesMustBeAlike() {
        Edge.says("5 STORE (ROWS of two LANES)");
        Told x = new Told();
        for (int lane = 0; lane <= 2; lane++) {
            x.row(lane, lane, 2);
            x.row(lane + 3, lane, 2);
        }
        for (int a = 0; a < 6; a++) {
            for (int b = 0; b < 6; b++) {
                x.due(x.copy(a, 0, b, 0, 2), a % 3 == b % 3 ? 2 : Edge.STORE);
                x.due(x.status(), a % 3 == b % 3 ? 0 : 5);
                x.due(x.copy(a, 2, b, 2, 0), a % 3 == b % 3 ? 0 : Edge.STORE);
            }
        }
        x.row(3, 1, 2);
        x.due(x.copy(0, 0, 3, 0, 2), Edge.STORE);
        x.due(x.copy(1, 0, 3, 0, 2), 2);
    }

    static void promise04_badThenNullThenStoreThenPlace() {
        Edge.says("BAD: ROWS; NULL; STORE; PLACE (i, j, n below 0, or beyond an end).", "then FINDINGS, of several the first in time");
        Told x = new Told();
        x.row(0, 0, 2);
        x.row(1, 1, 2);
        for (int row : NO_ROWS) {
            x.due(x.copy(row, 0, 0, 0, 1), Edge.BAD);
            x.due(x.copy(0, 0, row, 0, 1), Edge.BAD);
            x.due(x.copy(row, -1, 7, -1, -1), Edge.BAD);
            x.due(x.copy(7, -1, row, -1, -1), Edge.BAD);
        }
        x.due(x.copy(7, 0, 0, 0, 1), Edge.NULL);
        x.due(x.copy(0, 0, 7, 0, 1), Edge.NULL);
        x.due(x.copy(7, 0, 6, 0, 0), Edge.NULL);
        x.due(x.copy(1, -1, 7, 0, 1), Edge.NULL);
        x.due(x.copy(7, 0, 1, 0, 9), Edge.NULL);
        x.due(x.copy(0, -1, 1, 0, 1), Edge.STORE);
        x.due(x.copy(0, 0, 1, 3, 0), Edge.STORE);
        x.due(x.copy(0, 0, 1, 0, -1), Edge.STORE);
        x.due(x.copy(0, 0, 0, 0, -1), Edge.PLACE);
    }

    // ---- drop

    static void promise05_howManyItemsItHad() {
        Edge.says("A ROW is missing from now on: how many ITEMS it had.");
        Told x = new Told();
        for (int n = 0; n <= 40; n++) {
            x.row(n % 8, n % 3, n);
            x.due(x.drop(n % 8), n);
        }
        x.due(x.count(0), 0);
    }

    static void promise05_missingFromNowOn() {
        Edge.says("A ROW is missing from now on");
        Told x = Edge.with(Edge.SEEING);
        x.row(0, 0, 3);
        x.row(1, 0, 3);
        x.setAll(0, 1, 2, 3);
        x.setAll(1, 4, 5, 6);
        x.due(x.drop(0), 3);
        x.due(x.drop(0), Edge.NULL);
        x.due(x.status(), 1);
        x.due(x.set(0, 0, 1), Edge.NULL);
        x.due(x.copy(0, 0, 1, 0, 1), Edge.NULL);
        x.due(x.copy(1, 0, 0, 0, 1), Edge.NULL);
        x.due(x.fits(0, 0, 0, 1, 0), Edge.NULL);
        x.dueItems(1, 4, 5, 6);
        x.row(0, 0, 3);
        x.dueItems(0, 0, 0, 0);
    }

    static void promise05_badThenNull() {
        Edge.says("BAD; NULL.");
        Told x = new Told();
        for (int row : NO_ROWS) {
            x.due(x.drop(row), Edge.BAD);
        }
        x.due(x.status(), 0);
        x.due(x.drop(0), Edge.NULL);
        x.due(x.drop(7), Edge.NULL);
        x.due(x.status(), 1);
    }
}
