/** Terms 3 and 4: whole sentences, of which other tests have only the edges; what is foretold must be what comes. */
public final class SentencesForetold {
    private static final String[] LETTERS = {"", "i", "c", "r", "w", "p"};
    private static final String[] COASTS = {Edge.FIVE, "l9,9,30,7,9;i0,2,9;i8,0,9;w5,1,0;c5,2,1;p3,0,6;",
        "l5,3,11,4,8;p9,2,9;w1,0,9;r4,1,9;", "l2,7,23,6,5;c3,0,9;p6,1,9;", Edge.RICH, Edge.BARE};

    public static void main(String[] args) {
        Edge.run(SentencesForetold.class);
    }

    // ---- what is foretold is what comes

    static void promise15_whatComes() {
        Edge.says("FORETOLD (nothing changes), d SEASONS from now (0 to 60). SPANS of one; the PLACE of its END; PURSE.");
        for (String text : COASTS) {
            for (int d = 0; d <= 60; d += 4) {
                Told x = Edge.with(text);
                Told later = Edge.inSeason(d, text);
                int piers = x.count(1);
                for (int pier = 0; pier < piers; pier++) {
                    x.due(x.ahead(pier, d, 0), later.pier(pier, 2));
                    x.due(x.ahead(pier, d, 1), later.pier(pier, 3));
                }
                x.due(x.count(2), 0);
            }
        }
    }

    static void promise16_whatComes() {
        Edge.says("FORETOLD (nothing changes), d SEASONS from now (0 to 60). SPANS of one; the PLACE of its END; PURSE.");
        for (String text : COASTS) {
            for (int d = 0; d <= 60; d++) {
                Told x = Edge.with(text);
                x.due(x.purse(d), Edge.inSeason(d, text).count(4));
                x.due(x.count(4), 0);
            }
        }
    }

    static void promise17_whatComes() {
        Edge.says("GONE: behind how many SEASONS (0: now; to 60) a PIER first has no SPANS; NONE.");
        for (String text : COASTS) {
            Told x = Edge.with(text);
            int piers = x.count(1);
            for (int pier = 0; pier < piers; pier++) {
                int gone = x.gone(pier);
                Edge.check(gone != Edge.NONE || x.ahead(pier, 60, 0) > 0, "gone(" + pier + ") on " + text);
                if (gone >= 0) {
                    x.due(Edge.inSeason(gone, text).pier(pier, 2), 0);
                }
                if (gone > 0) {
                    Edge.check(Edge.inSeason(gone - 1, text).pier(pier, 2) > 0, "gone(" + pier + ") is early on " + text);
                }
            }
        }
    }

    static void promise18_whatComes() {
        Edge.says("AIM of a PIER to a PLACE, so far OUT (1 to 20): the LEAN by which it is there by as many SPANS, of several "
                + "the least; how many spans are to be built for that; NONE: by none, or it goes farther already, or IRON is "
                + "not enough.", "AIM: LEAN (what = 0), how many (1); NONE.");
        int found = 0;
        for (int place = 0; place <= 9; place++) {
            for (int out = 1; out <= 20; out++) {
                Told x = Edge.with("l1,1,9,0,9;w7,0,6;");
                int lean = x.aim(0, place, out, 0);
                int more = x.aim(0, place, out, 1);
                if (lean != Edge.NONE) {
                    found++;
                    x.turn(0, lean);
                    x.buildAll(0, more);
                    x.due(x.pier(0, 2), out);
                    x.due(x.pier(0, 3), place);
                }
            }
        }
        // 6 to 15 OUT there is a PLACE by each LEAN, but 10 OUT all three are one, 15 OUT those of LEANS 0 and 2
        Edge.check(found == 8 * 3 + 1 + 2, "so many PLACES can be come to: " + found);
    }

    static void promise19_asIfAPierEndedThere() {
        Edge.says("YEARS: what would be the TAKE of a PLACE, so far OUT (0 to 99).");
        for (int place = 0; place <= 9; place++) {
            for (int out = 0; out <= 9; out++) {
                Told x = Edge.with("l7,8,29,0,0;w" + place + ",1," + out + ";");
                x.due(x.take(place, out), x.pier(0, 4));
            }
        }
    }

    static void promise20_whatComes() {
        Edge.says("GIVE for d: spans built now, on each PIER any (it has 99 at most then), as many in all as there is IRON (9 at "
                + "most) or fewer, by which PURSE is most behind d SEASONS, of several the fewest in all, of these the first "
                + "(pier by pier, fewest first): how much; how many; how many on the k-th.",
                "GIVE: how much (k = -1), how many (k = -2), on the k-th (0 on; NONE: no such PIER).");
        for (String text : COASTS) {
            for (int d = 0; d <= 60; d += 6) {
                Told x = Edge.with(text);
                int[] given = new int[x.count(1)];
                int most = x.give(d, -1);
                int number = x.give(d, -2);
                for (int pier = 0; pier < given.length; pier++) {
                    given[pier] = x.give(d, pier);
                }
                int all = 0;
                for (int pier = 0; pier < given.length; pier++) {
                    x.buildAll(pier, given[pier]);
                    all += given[pier];
                }
                x.due(x.purse(d), most);
                Edge.check(all == number, "give(" + d + ", -2) answered " + number + ", but " + all + " are given");
            }
        }
    }

    static void promise21_whatComes() {
        Edge.says("TURN for d: the one PIER and LEAN (not as it is) by which, turned now, PURSE is most behind d SEASONS, of "
                + "several the first (by PIERS, then LEANS): which; how it LEANS; how much; NONE: there are no PIERS.",
                "TURN: which (what = 0), LEAN (1), how much (2); NONE.");
        for (String text : COASTS) {
            for (int d = 0; d <= 60; d += 12) {
                Told x = Edge.with(text);
                int which = x.turning(d, 0);
                int lean = x.turning(d, 1);
                int most = x.turning(d, 2);
                dueFirstTurn(x, d, which, lean, most);
            }
        }
    }

    private static void dueFirstTurn(Told x, int d, int which, int lean, int most) {
        int first = Edge.NONE;
        int best = Edge.NONE;
        int piers = x.count(1);
        for (int pier = 0; pier < piers; pier++) {
            for (int to = 0; to <= 2; to++) {
                if (x.turn(pier, to) != Edge.STATE) {
                    int much = x.purse(d);
                    first = much > best ? 10 * pier + to : first;
                    best = Math.max(best, much);
                    x.undo();
                }
            }
        }
        x.due(most, best);
        x.due(which, first == Edge.NONE ? Edge.NONE : first / 10);
        x.due(lean, first == Edge.NONE ? Edge.NONE : first % 10);
    }

    static void promise22_pairsByHand() {
        Edge.says("CROSS: pairs of PIERS that are at one PLACE as far OUT as one another, somewhere 1 or more OUT, both going so "
                + "far: how many; the first (10 times the lesser, and the greater); how far OUT the first ones do so first; "
                + "NONE.", "CROSS: how many (what = 0), the first (1), how far OUT (2); NONE (1, 2).");
        // from 0 up, 2 straight, 4 down, 6 down: 1 and 2, 0 and 1, 0 and 2 meet 2 OUT at PLACE 2; 0 and 3 meet 3 OUT at 3
        Told x = Edge.with("l1,1,9,0,0;i0,2,4;w2,1,2;p4,0,4;c6,0,3;");
        x.due(x.cross(0), 4);
        x.due(x.cross(1), 1);
        x.due(x.cross(2), 2);
        x.read("l1,1,9,0,0;i0,2,1;w2,1,2;p4,0,4;c6,0,3;");
        x.due(x.cross(0), 1);
        x.due(x.cross(1), 12);
        x.due(x.cross(2), 2);
        x.read("l1,1,9,0,0;i0,2,1;w2,1,1;p4,0,1;c6,0,3;");
        x.due(x.cross(0), 0);
        x.due(x.cross(1), Edge.NONE);
        x.due(x.cross(2), Edge.NONE);
    }

    /** What all take from now on is written down, then each thing of each PIER that is so must be among what fits. */
    static void promise23_whatWasIsAmongWhatFits() {
        Edge.says("Sets are bits.", "A row tells what all TAKE, together, in each of n SEASONS (1 to 16) from this one on. FROMS "
                + "(0 to 9, bits) of one by which it is so; LEANS (0 to 2, bits); SORTS: KINDS (bits 1 to 5); LONG: SPANS (0 "
                + "to 29, bits) it has now.");
        for (String text : COASTS) {
            Told x = Edge.with(text);
            x.row(0, 1, 16);
            for (int k = 0; k < 16; k++) {
                x.set(0, k, Edge.inSeason(k + 1, text).count(4) - Edge.inSeason(k, text).count(4));
            }
            int piers = x.count(1);
            for (int pier = 0; pier < piers; pier++) {
                dueAmong(x.fits(pier, 0, 0, 16, 0), x.pier(pier, 0));
                dueAmong(x.fits(pier, 0, 0, 16, 1), x.pier(pier, 1));
                dueAmong(x.fits(pier, 0, 0, 16, 2), x.kind(pier));
                dueAmong(x.fits(pier, 0, 0, 16, 3), x.pier(pier, 2));
            }
        }
    }

    private static void dueAmong(int bits, int one) {
        Edge.check(bits >= 0 && (bits >> one & 1) == 1, one + " is not among " + bits);
    }

    /** Each other thing that fits() does not name must not be so: a text with it in place takes otherwise. */
    static void promise23_whatFitsIsSo() {
        Edge.says("Sets are bits.", "FROMS (0 to 9, bits) of one by which it is so; LEANS (0 to 2, bits); SORTS: KINDS (bits 1 to "
                + "5)");
        for (int kind = 1; kind <= 5; kind++) {
            Told x = Edge.with(oneAndAnother(kind, 3, 2, 9));
            x.row(2, 2, 16);
            int[] taken = takenIn(oneAndAnother(kind, 3, 2, 9), 16);
            x.setAll(2, taken);
            for (int n = 1; n <= 16; n += 5) {
                int[] bits = new int[4];
                for (int value = 0; value <= 9; value++) {
                    bits[0] |= isTaken(oneAndAnother(kind, value, 2, 9), taken, n) ? 1 << value : 0;
                    bits[1] |= value <= 2 && isTaken(oneAndAnother(kind, 3, value, 9), taken, n) ? 1 << value : 0;
                    bits[2] |= value >= 1 && value <= 5 && isTaken(oneAndAnother(value, 3, 2, 9), taken, n) ? 1 << value : 0;
                    bits[3] |= isTaken(oneAndAnother(kind, 3, 2, value), taken, n) ? 1 << value : 0;
                }
                for (int what = 0; what <= 2; what++) {
                    x.due(x.fits(1, 2, 0, n, what), bits[what]);
                }
                x.due(x.fits(1, 2, 0, n, 3) & 1023, bits[3]);
            }
        }
    }

    private static String oneAndAnother(int kind, int from, int lean, int spans) {
        return "l3,4,13,2,0;w4,0,9;" + LETTERS[kind] + from + "," + lean + "," + spans + ";";
    }

    private static int[] takenIn(String text, int seasons) {
        Told x = Edge.with(text);
        int[] taken = new int[seasons];
        for (int k = 0; k < seasons; k++) {
            taken[k] = -x.count(4) + x.seasons(1);
        }
        return taken;
    }

    private static boolean isTaken(String text, int[] taken, int n) {
        int[] other = takenIn(text, n);
        for (int k = 0; k < n; k++) {
            if (other[k] != taken[k]) {
                return false;
            }
        }
        return true;
    }

    static void promise24_byHand() {
        Edge.says("All that is divided is cut towards 0, but fractions, told as two numbers in lowest terms (0 is 0 by 1).",
                "FIRE: each PIER has no SPANS from now on by c of 10, each by itself: that q (0 to 200), or more, is TAKEN in "
                + "this SEASON: a fraction.");
        // 5 and 3 are taken: both stand by 64 of 100, the first alone by 16, the second alone by 16, none by 4
        Told x = Edge.with("l1,1,9,1,3;i1,2,2;w1,1,2;");
        dueFraction(x, 0, 1, 1);
        dueFraction(x, 1, 24, 25);
        dueFraction(x, 3, 24, 25);
        dueFraction(x, 4, 4, 5);
        dueFraction(x, 5, 4, 5);
        dueFraction(x, 6, 16, 25);
        dueFraction(x, 8, 16, 25);
        dueFraction(x, 9, 0, 1);
    }

    private static void dueFraction(Told x, int q, int above, int below) {
        x.due(x.fire(q, 2, 0), above);
        x.due(x.fire(q, 2, 1), below);
    }

    /** X is 16807, 282475249, 1622650073, 984943658, 1144108930: the last two are even, of two PIERS the first is built on. */
    static void promise25_byHand() {
        Edge.says("DECADES of n SEASONS (0 to 60) by a SEED (X at first): ahead of each X becomes the rest of (X times 16807) by "
                + "2147483647; if 2 divides X, and there is IRON, a span is built on the PIER that is the rest of X by how many "
                + "there are (no PIERS, or it has 99: none); then the SEASON, with the rest of X by 5 in place of the STORM: "
                + "PURSE then; all SPANS then.");
        // storms are 2, 4, 3, 3, 0; PIER 0 on piles and PIER 1 of cast iron take as much as they have SPANS
        Told x = Edge.with("l0,1,30,1,1;p0,1,3;c0,1,7;");
        int[] purses = {0, 3 + 7, 10 + 3 + 6, 19 + 2 + 4, 25 + 3 + 3, 31 + 3 + 2};
        int[] spans = {10, 3 + 6, 2 + 4, 2 + 3, 3 + 2, 3 + 2};
        for (int n = 0; n <= 5; n++) {
            x.due(x.drawn(n, 1, 0), purses[n]);
            x.due(x.drawn(n, 1, 1), spans[n]);
        }
        x.due(x.count(5), 1);
    }

    // ---- kinds and asks

    static void promise29_kindsAreOneAnother() {
        Edge.says("KINDS of PIERS: 0 PIER; 1 IRONS, a PIER; 2 CAST, an IRONS; 3 RUSTY, an IRONS; 4 WOODEN, a PIER; 5 PILED, a "
                + "WOODEN. By this it is asked.");
        boolean[][] is = {{true, true, false, false, false, false}, {true, true, true, false, false, false},
            {true, true, false, true, false, false}, {true, false, false, false, true, false},
            {true, false, false, false, true, true}};
        Told x = Edge.with(Edge.FIVE);
        for (int pier = 0; pier < 5; pier++) {
            for (int kind = 0; kind <= 5; kind++) {
                x.due(x.as(pier, kind), is[pier][kind] ? pier : Edge.KIND);
                x.due(x.status(), is[pier][kind] ? 0 : 3);
            }
        }
    }

    static void promise30_eachBodyOfEachKind() {
        Edge.says("By this it is asked.", "ASKS of PIERS, by BODIES, each of which leaves its number in THE TRACE as it begins "
                + "(the first 16): 0 SIZE: 10 lent to all PIERS: FROM. 11 of IRONS: what 10 gives, and MARK. 12 of CAST ones: "
                + "0 less what 11 gives. 13 of WOODEN ones: what 10 gives, less 100. 14 of PILED ones: what 13 gives, twice. "
                + "1 MARK: 20 lent to all PIERS: the number. 21 of IRONS: what 20 gives, and SPANS. 22 of RUSTY ones: what 21 "
                + "gives, less 1000. 23 of WOODEN ones: what 20 gives, less SIZE. 24 of CAST ones: what 21 gives, twice.",
                "(Of an ask the BODY told for the KIND begins, else that of the nearest KIND that it is, too, else the one "
                + "that is lent; SIZE, MARK within others are asked of the same PIER anew.)");
        Told x = Edge.with(Edge.FIVE);
        dueAsk(x, 0, 0, 2 + (0 + 5), 11, 10, 21, 20);
        dueAsk(x, 0, 1, 0 + 5, 21, 20);
        dueAsk(x, 1, 0, -(7 + (1 + 4) * 2), 12, 11, 10, 24, 21, 20);
        dueAsk(x, 1, 1, (1 + 4) * 2, 24, 21, 20);
        dueAsk(x, 2, 0, 9 + (2 + 9 - 1000), 11, 10, 22, 21, 20);
        dueAsk(x, 2, 1, 2 + 9 - 1000, 22, 21, 20);
        dueAsk(x, 3, 0, 0 - 100, 13, 10);
        dueAsk(x, 3, 1, 3 - (0 - 100), 23, 20, 13, 10);
        dueAsk(x, 4, 0, (4 - 100) * 2, 14, 13, 10);
        dueAsk(x, 4, 1, 4 - (4 - 100) * 2, 23, 20, 14, 13, 10);
    }

    private static void dueAsk(Told x, int pier, int what, int answer, int... trace) {
        x.due(x.ask(pier, what), answer);
        for (int i = 0; i < trace.length; i++) {
            x.due(x.trace(i), trace[i]);
        }
        x.due(x.trace(trace.length), Edge.NONE);
    }
}
