/** Promises 6 to 8, sentence by sentence: the tape, what is read from it, and its faults. */
public final class EdgesOfTexts {
    private static final String LAW = "l3,4,17,2,6;";
    private static final String FOUR = LAW + "i1,1,1;c2,0,2;r3,2,3;w4,1,4;";

    public static void main(String[] args) {
        Edge.run(EdgesOfTexts.class);
    }

    /** A text on a new object, and on one that has a COAST: the place of its FAULT, its number, and that all stays. */
    private static void faulty(String text, int place, int number) {
        Told x = new Told();
        x.due(x.read(text), Edge.FAULTY - place);
        x.due(x.fault(), number);
        x.due(x.count(7), 0);
        x.due(x.count(1), 0);
        x.due(x.purse(0), Edge.STATE);
    }

    private static void good(String text, int piers) {
        Told x = new Told();
        x.due(x.read(text), piers);
        x.due(x.fault(), 0);
        x.due(x.count(1), piers);
        x.due(x.count(7), 0);
    }

    // ---- feed

    static void promise06_bytesAre0To255() {
        Edge.says("A byte (0 to 255) comes behind the tape: how many it has.");
        Told x = new Told();
        x.due(x.feed(0), 1);
        x.due(x.feed(1), 2);
        x.due(x.feed(127), 3);
        x.due(x.feed(128), 4);
        x.due(x.feed(254), 5);
        x.due(x.feed(255), 6);
        for (int letter : new int[] {-1, 256, 257, -128, 108 + 256, 108 - 256, Edge.LEAST, Edge.MOST}) {
            x.due(x.feed(letter), Edge.BAD);
            x.due(x.count(7), 6);
        }
    }

    static void promise06_atMost100Bytes() {
        Edge.says("THE TAPE has at most 100 bytes", "BAD; FULL.");
        Told x = Edge.withTape(98);
        x.due(x.count(7), 98);
        x.due(x.feed('l'), 99);
        x.due(x.feed('l'), 100);
        x.due(x.feed('l'), Edge.FULL);
        x.due(x.feed(0), Edge.FULL);
        x.due(x.feed(255), Edge.FULL);
        x.due(x.count(7), 100);
    }

    static void promise06_badIsAheadOfFull() {
        Edge.says("BAD; FULL.", "the first of these that fits");
        Told x = Edge.withTape(100);
        x.due(x.feed(-1), Edge.BAD);
        x.due(x.feed(256), Edge.BAD);
        x.due(x.feed(255), Edge.FULL);
    }

    static void promise06_aFullTapeIsReadAndFedAnew() {
        Edge.says("A byte (0 to 255) comes behind the tape: how many it has.");
        Told x = Edge.withTape(100);
        x.due(x.coast(), Edge.FAULTY);
        x.due(x.count(7), 0);
        x.due(x.feed('l'), 1);
        x.due(x.read("1,2,3,4,5;"), 0);
        x.due(x.count(5), 5);
    }

    static void promise06_bytesComeBehind() {
        Edge.says("A byte (0 to 255) comes behind the tape");
        Told x = new Told();
        x.type("l1,2,3");
        x.feed(256);
        x.status();
        x.due(x.read(",4,5;"), 0);
        x.due(x.count(5), 5);
    }

    // ---- coast: what is as told

    static void promise07_theLeastLaw() {
        Edge.says("(0 to 9; 0 to 9; 1 to 30; 0 to 9; 0 to 9)");
        Told x = new Told();
        x.due(x.read("l0,0,1,0,0;"), 0);
        x.due(x.count(5), 0);
        x.due(x.count(3), 0);
        x.due(x.take(9, 99), 0);
        x.due(x.read("l0,0,2,1,1;"), 0);
        x.due(x.take(9, 99), 0);
        x.due(x.count(3), 1);
        x.due(x.count(5), 1);
    }

    static void promise07_theGreatestLaw() {
        Edge.says("(0 to 9; 0 to 9; 1 to 30; 0 to 9; 0 to 9)");
        Told x = new Told();
        x.due(x.read("l9,9,30,9,9;"), 0);
        x.due(x.count(5), 9);
        x.due(x.count(3), 4);
        x.due(x.take(1, 1), 18);
        x.due(x.take(9, 1), (81 + 9) % 30);
        x.due(x.take(2, 1), 27);
        x.due(x.take(0, 99), 891 % 30);
    }

    static void promise07_eachNumberOfTheLaw() {
        Edge.says("law: l ALONG , OUT , ROUND , GALE , IRON ;");
        for (int n = 0; n <= 9; n++) {
            Told x = new Told();
            x.due(x.read("l" + n + ",0,30,0,0;"), 0);
            x.due(x.take(1, 1), n);
            x.due(x.read("l0," + n + ",30,0,0;"), 0);
            x.due(x.take(1, 1), n);
            x.due(x.read("l0,0,30," + n + ",0;"), 0);
            x.due(x.count(3), n % 5);
            x.due(x.read("l0,0,30,0," + n + ";"), 0);
            x.due(x.count(5), n);
        }
        for (int n = 1; n <= 30; n++) {
            Told x = new Told();
            x.due(x.read("l9,9," + n + ",0,0;"), 0);
            x.due(x.take(9, 9), 162 % n);
        }
    }

    static void promise07_numbersOfTheLawBeside() {
        Edge.says("2 a NUMBER that is not as told", "(0 to 9; 0 to 9; 1 to 30; 0 to 9; 0 to 9)");
        for (int n = 10; n <= 99; n++) {
            faulty("l" + n + ",4,17,2,6;", 1, 2);
            faulty("l3," + n + ",17,2,6;", 3, 2);
            faulty("l3,4,17," + n + ",6;", 8, 2);
            faulty("l3,4,17,2," + n + ";", 10, 2);
        }
        faulty("l3,4,0,2,6;", 5, 2);
        faulty("l3,4,00,2,6;", 5, 2);
        for (int n = 31; n <= 99; n++) {
            faulty("l3,4," + n + ",2,6;", 5, 2);
        }
        good("l3,4,1,2,6;", 0);
        good("l3,4,01,2,6;", 0);
        good("l3,4,30,2,6;", 0);
    }

    static void promise07_eachNumberOfAPier() {
        Edge.says("pier: SORT FROM , LEAN , SPANS ;", "0 to 9; 0 to 2; 0 to 9");
        for (int n = 0; n <= 9; n++) {
            Told x = new Told();
            x.due(x.read(LAW + "i" + n + "," + n % 3 + "," + (9 - n) + ";"), 1);
            x.due(x.pier(0, 0), n);
            x.due(x.pier(0, 1), n % 3);
            x.due(x.pier(0, 2), 9 - n);
        }
    }

    static void promise07_numbersOfAPierBeside() {
        Edge.says("2 a NUMBER that is not as told", "0 to 9; 0 to 2; 0 to 9");
        for (int n = 10; n <= 99; n++) {
            faulty(LAW + "i" + n + ",1,1;", 13, 2);
            faulty(LAW + "i1,1," + n + ";", 17, 2);
        }
        for (int n = 3; n <= 99; n++) {
            faulty(LAW + "i1," + n + ",1;", 15, 2);
        }
        faulty(FOUR + "p9,3,9;", 43, 2);
        faulty(FOUR + "p9,2,10;", 45, 2);
        good(FOUR + "p9,2,9;", 5);
    }

    static void promise07_numbersOfTwoFigures() {
        Edge.says("NUMBERS (figures, 2 at most)");
        Told x = new Told();
        x.due(x.read("l09,08,07,06,05;i04,02,01;p00,00,00;"), 2);
        x.due(x.take(1, 1), 17 % 7);
        x.due(x.count(3), 1);
        x.due(x.count(5), 5);
        x.due(x.pier(0, 0), 4);
        x.due(x.pier(0, 1), 2);
        x.due(x.pier(0, 2), 1);
        x.due(x.pier(1, 0), 0);
    }

    static void promise07_eachSort() {
        Edge.says("SORT: i one of iron, c one of cast iron, r a rusty one, w one of wood, p one on piles");
        Told x = new Told();
        x.due(x.read(LAW + "p1,1,1;w1,1,1;r1,1,1;c1,1,1;i1,1,1;"), 5);
        for (int pier = 0; pier < 5; pier++) {
            x.due(x.kind(pier), 5 - pier);
        }
        for (char letter = 'a'; letter <= 'z'; letter++) {
            if ("icrwp".indexOf(letter) >= 0) {
                good(LAW + letter + "1,1,1;", 1);
            } else {
                faulty(LAW + letter + "1,1,1;", 12, 1);
            }
        }
    }

    static void promise07_noneToFivePiers() {
        Edge.says("PIERS 0 .. 4, 5 at most", "coast: law { pier }");
        String text = LAW;
        for (int piers = 0; piers <= 5; piers++) {
            good(text, piers);
            text += "w" + piers + ",1,2;";
        }
        faulty(text, text.length() - 7, 3);
    }

    static void promise07_theLongestText() {
        Edge.says("THE TAPE has at most 100 bytes");
        Told x = new Told();
        String text = "l09,09,30,09,09;" + "i09,02,09;".repeat(5);
        x.due(x.read(text), 5);
        x.due(x.count(8), 45);
        faulty(text + "i09,02,09;i09,02,09;i09,02,09;i09,", 66, 3);
    }

    // ---- coast: faults

    static void promise07_theEndIsHowManyBytesThereAre() {
        Edge.says("the end: how many bytes there are");
        String text = "l3,4,17,2,6;i2,2,5;w0,2,3;";
        for (int length = 0; length <= text.length(); length++) {
            String part = text.substring(0, length);
            if (length == 12 || length == 19 || length == 26) {
                good(part, (length - 12) / 7);
            } else {
                faulty(part, length, 1);
            }
        }
    }

    static void promise07_anEmptyTape() {
        Edge.says("the end: how many bytes there are");
        Told x = new Told();
        x.due(x.coast(), Edge.FAULTY);
        x.due(x.fault(), 1);
        x.read(LAW);
        x.due(x.coast(), Edge.FAULTY);
        x.due(x.count(5), 6);
    }

    static void promise07_eachByteWhereALetterStands() {
        Edge.says("1 it cannot stand there, or is none", "letters a to z (each by itself)");
        for (int letter = 0; letter <= 255; letter++) {
            String sign = String.valueOf((char) letter);
            if (letter != 'l') {
                faulty(sign + "3,4,17,2,6;", 0, 1);
            }
            if ("icrwp".indexOf(letter) < 0) {
                faulty(LAW + sign + "1,1,1;", 12, 1);
                faulty(LAW + "i1,1,1;" + sign, 19, 1);
            }
        }
    }

    static void promise07_eachByteWhereANumberStands() {
        Edge.says("1 it cannot stand there, or is none", "SIGNS , and ; nothing else, no blanks");
        for (int letter = 0; letter <= 255; letter++) {
            if (letter < '0' || letter > '9') {
                String sign = String.valueOf((char) letter);
                faulty("l" + sign + "3,4,17,2,6;", 1, 1);
                faulty("l3,4,17,2," + sign + "6;", 10, 1);
                faulty(LAW + "i" + sign + "1,1,1;", 13, 1);
                faulty(LAW + "i1,1," + sign + "1;", 17, 1);
            }
        }
    }

    static void promise07_eachByteWhereASignStands() {
        Edge.says("1 it cannot stand there, or is none", "SIGNS , and ; nothing else, no blanks");
        for (int letter = 0; letter <= 255; letter++) {
            boolean isFigure = letter >= '0' && letter <= '9';
            String sign = String.valueOf((char) letter);
            if (!isFigure && letter != ',') {
                faulty("l3" + sign + "4,17,2,6;", 2, 1);
                faulty(LAW + "i1,1" + sign + "1;", 16, 1);
            }
            if (!isFigure && letter != ';') {
                faulty("l3,4,17,2,6" + sign, 11, 1);
                faulty(LAW + "i1,1,1" + sign, 18, 1);
            }
        }
    }

    static void promise07_noBlanks() {
        Edge.says("nothing else, no blanks");
        String text = "l3,4,17,2,6;i2,2,5;";
        for (int place = 0; place <= text.length(); place++) {
            faulty(text.substring(0, place) + " " + text.substring(place), place, 1);
        }
    }

    static void promise07_aRunOfThreeFigures() {
        Edge.says("a run of three figures, at its first");
        for (String run : new String[] {"000", "001", "009", "100", "999", "0000", "12345678"}) {
            faulty(run, 0, 1);
            faulty("l" + run + ",4,17,2,6;", 1, 1);
            faulty("l3," + run + ",17,2,6;", 3, 1);
            faulty("l3,4," + run + ",2,6;", 5, 1);
            faulty("l3,4,17," + run + ",6;", 8, 1);
            faulty("l3,4,17,2," + run + ";", 10, 1);
            faulty(LAW + run, 12, 1);
            faulty(LAW + "c" + run + ",1,1;", 13, 1);
            faulty(LAW + "c1," + run + ",1;", 15, 1);
            faulty(LAW + "c1,1," + run + ";", 17, 1);
            faulty(LAW + "c1,1," + run, 17, 1);
        }
    }

    static void promise07_theFirstTokenThatHasOne() {
        Edge.says("the first TOKEN that has one (its first byte)");
        faulty("l10,4,31,2,6;", 1, 2);
        faulty("l3,4,31,2 6;", 5, 2);
        faulty("l3,4 31,2,6;", 4, 1);
        faulty("l3,4,17,2,10", 10, 2);
        faulty(LAW + "i10,3,10;", 13, 2);
        faulty(LAW + "i1,3,10;", 15, 2);
        faulty(LAW + "x10,3,10;", 12, 1);
        faulty(FOUR + "p10,1,1;w1,1,1;", 41, 2);
        faulty(FOUR + "p1,1,1;w99,99,99;", 47, 3);
        faulty(FOUR + "p1,1,1;w", 47, 3);
        faulty(FOUR + "p1,1,1;ww", 47, 3);
    }

    static void promise07_ofOneTokenTheLeast() {
        Edge.says("of one TOKEN the least");
        faulty("99,", 0, 1);
        faulty("l3,4,17,2,6;99", 12, 1);
        faulty("l999,4,17,2,6;", 1, 1);
        faulty(FOUR + "p1,1,1;x", 47, 1);
        faulty(FOUR + "p1,1,1;l", 47, 1);
        faulty(FOUR + "p1,1,1;1", 47, 1);
        faulty(FOUR + "p1,1,1;;", 47, 1);
        faulty(FOUR + "p1,1,1; ", 47, 1);
    }

    static void promise07_aPierMoreThanThereIsRoomFor() {
        Edge.says("3 a pier more than there is room for (its letter)");
        String five = FOUR + "p1,1,1;";
        for (char sort : "icrwp".toCharArray()) {
            faulty(five + sort + "1,1,1;", 47, 3);
            good(FOUR + sort + "1,1,1;", 5);
        }
    }

    // ---- coast: what stands then

    static void promise07_inPlaceOfTheOneBefore() {
        Edge.says("A COAST that is read stands in place of the one before (none at first): SEASON 0, PURSE 0; no ACT can be undone.");
        Told x = Edge.with(Edge.FIVE);
        x.seasons(3);
        x.build(0);
        x.turn(1, 1);
        x.buy(1);
        x.due(x.read("l1,2,29,3,4;p5,2,8;w6,0,7;"), 2);
        int[] counts = {0, 2, 0, 3, 0, 4, 0, 0, 15};
        for (int what = 0; what <= 8; what++) {
            x.due(x.count(what), counts[what]);
        }
        x.due(x.undo(), Edge.STATE);
        x.due(x.kind(0), 5);
        x.due(x.kind(1), 4);
        x.due(x.kind(2), Edge.BAD);
        x.due(x.pier(0, 0), 5);
        x.due(x.pier(0, 1), 2);
        x.due(x.pier(1, 1), 0);
        x.due(x.take(1, 1), 3);
    }

    static void promise07_fewerPiersThanBefore() {
        Edge.says("A COAST that is read stands in place of the one before");
        Told x = Edge.with(Edge.FIVE);
        x.due(x.read(Edge.BARE), 0);
        for (int pier = 0; pier < 5; pier++) {
            x.due(x.pier(pier, 2), Edge.BAD);
        }
        x.due(x.count(8), 0);
        x.due(x.seasons(1), 0);
        x.due(x.read(Edge.FIVE), 5);
        x.due(x.count(8), 23);
    }

    static void promise07_theSameTextAnew() {
        Edge.says("SEASON 0, PURSE 0; no ACT can be undone");
        Told x = Edge.with(Edge.FIVE);
        x.pass(30);
        x.due(x.count(6), 24);
        x.due(x.read(Edge.FIVE), 5);
        x.due(x.count(2), 0);
        x.due(x.count(4), 0);
        x.due(x.count(6), 0);
        x.due(x.count(8), 23);
        x.due(x.undo(), Edge.STATE);
        x.seasons(1);
        x.due(x.undo(), 0);
        x.due(x.undo(), Edge.STATE);
    }

    static void promise07_behindWhatWasForetold() {
        Edge.says("SEASON 0, PURSE 0; no ACT can be undone", "FORETOLD (nothing changes)");
        Told x = Edge.with(Edge.FIVE);
        x.drawn(60, 2, 0);
        x.due(x.read(LAW + "w5,2,8;"), 1);
        x.due(x.count(2), 0);
        x.due(x.count(4), 0);
        x.due(x.count(5), 6);
        x.purse(60);
        x.due(x.read("l0,0,1,0,0;"), 0);
        x.due(x.count(2), 0);
        x.due(x.count(4), 0);
        x.due(x.count(8), 0);
    }

    static void promise07_allStaysByAFault() {
        Edge.says("-1000100 less the place of a FAULT: all stays.");
        Told x = Edge.with(Edge.FIVE);
        x.seasons(2);
        x.build(4);
        x.due(x.read("l9,9,30,9,9;i9,0,9;i9,0,9;i9,0,9;i9,0,9;i9,0,9;i"), Edge.FAULTY - 47);
        int[] counts = {0, 5, 2, 1, 68, 5, 3, 0, 6};
        for (int what = 0; what <= 8; what++) {
            x.due(x.count(what), counts[what]);
        }
        for (int pier = 0; pier < 5; pier++) {
            x.due(x.kind(pier), pier + 1);
        }
        x.due(x.pier(1, 0), 7);
        x.due(x.pier(3, 1), 2);
        x.due(x.pier(4, 2), 2);
        x.due(x.take(9, 9), 12);
        x.due(x.undo(), 2);
        x.due(x.undo(), 1);
        x.due(x.count(4), 34);
    }

    static void promise07_theTapeIsEmptyThen() {
        Edge.says("The tape, empty then, is read: how many PIERS there are.");
        Told x = new Told();
        x.due(x.read("l3,4,17,2,"), Edge.FAULTY - 10);
        x.due(x.count(7), 0);
        x.due(x.read("6;"), Edge.FAULTY);
        x.due(x.read(LAW), 0);
        x.due(x.count(7), 0);
        x.due(x.read("i1,1,1;"), Edge.FAULTY);
        // a shorter text behind a longer one: no byte of the longer is read
        x.read(Edge.FIVE);
        x.due(x.read("l3,4,17,2,6"), Edge.FAULTY - 11);
        x.due(x.read(LAW), 0);
    }

    // ---- fault

    static void promise08_noneBeforeOne() {
        Edge.says("0 before one.");
        Told x = new Told();
        x.due(x.fault(), 0);
        x.feed('x');
        x.due(x.fault(), 0);
        x.coast();
        x.due(x.fault(), 1);
        Told y = Edge.with(Edge.FIVE);
        y.due(y.fault(), 0);
        y.feed(256);
        y.set(0, 0, 0);
        y.due(y.fault(), 0);
    }

    static void promise08_theLatest() {
        Edge.says("The number of the latest FAULT");
        Told x = new Told();
        x.read("l10");
        x.due(x.fault(), 2);
        x.read(FOUR + "i1,1,1;i");
        x.due(x.fault(), 3);
        x.read("");
        x.due(x.fault(), 1);
        x.read("l3,4,31");
        x.due(x.fault(), 2);
        x.due(x.fault(), 2);
    }

    static void promise08_aGoodTextHasNone() {
        Edge.says("The number of the latest FAULT");
        Told x = new Told();
        x.read("l10");
        x.due(x.read(LAW), 0);
        x.due(x.fault(), 2);
        x.seasons(1);
        x.image(0);
        x.restore(0);
        x.undo();
        x.due(x.fault(), 2);
    }
}
