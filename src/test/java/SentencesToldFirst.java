import java.util.ArrayList;
import java.util.List;
import java.util.function.ToIntFunction;

/** What it is, the public face, Terms 1 and 2: whole sentences, of which other tests have only the edges, or nothing. */
public final class SentencesToldFirst {
    private static final int[] STORM_BY_GALE_1 = {1, 2, 3, 4, 0};

    public static void main(String[] args) {
        Edge.run(SentencesToldFirst.class);
    }

    // ---- what it is

    static void promise01_allOfItInOneRun() {
        Edge.says("Piers reach for the past: off this coast the resorts have each built a pier out into the years, and what "
                + "lies at its end is what they live on; piers of kinds by what storms take of them, where they begin, how "
                + "they lean, how far they go, told in a text; seasons, spans built, piers turned, iron bought; where each "
                + "ends when, what is taken there, what storms leave; how to come to a told year, to which piers to give the "
                + "iron there is, so that most is taken, which cross; where one begins, how it leans, of which kind it is, "
                + "how far it goes, by what was taken; how likely so much is taken, when piers burn; decades by draws; all "
                + "undone, images.");
        Told x = new Told();
        x.due(x.read("l1,1,9,1,3;i1,2,2;w3,1,3;"), 2);
        tellKindsAndActs(x);
        foretellTheEnds(x);
        foretellTheBest(x);
        tellByWhatWasTaken(x);
        undoAndRestore(x);
    }

    private static void tellKindsAndActs(Told x) {
        x.due(x.kind(0), 1);
        x.due(x.kind(1), 4);
        x.due(x.pier(0, 0), 1);
        x.due(x.pier(0, 1), 2);
        x.due(x.pier(0, 2), 2);
        x.due(x.pier(0, 5), 1);
        x.due(x.seasons(1), 11);
        x.due(x.build(0), 2);
        x.due(x.turn(1, 0), 1);
        x.due(x.buy(1), 3);
    }

    /** PIER 0 is at 3, two OUT, and takes 5; PIER 1 at 1, two OUT, and takes 3; the STORM is 2. */
    private static void foretellTheEnds(Told x) {
        x.due(x.pier(0, 3), 3);
        x.due(x.pier(0, 4), 5);
        x.due(x.pier(1, 3), 1);
        x.due(x.pier(1, 4), 3);
        x.due(x.ahead(0, 1, 0), 0);
        x.due(x.ahead(0, 1, 1), 1);
        x.due(x.ahead(1, 1, 0), 1);
        x.due(x.ahead(1, 1, 1), 2);
        x.due(x.purse(1), 14);
        x.due(x.gone(0), 1);
        x.due(x.gone(1), 2);
    }

    private static void foretellTheBest(Told x) {
        x.due(x.aim(0, 4, 3, 0), 2);
        x.due(x.aim(0, 4, 3, 1), 1);
        x.due(x.take(4, 3), 7);
        x.due(x.give(1, -1), 17);
        x.due(x.give(1, -2), 3);
        x.due(x.give(1, 0), 1);
        x.due(x.give(1, 1), 2);
        x.due(x.turning(1, 0), 1);
        x.due(x.turning(1, 1), 2);
        x.due(x.turning(1, 2), 18);
        x.due(x.cross(0), 1);
        x.due(x.cross(1), 1);
        x.due(x.cross(2), 1);
    }

    private static void tellByWhatWasTaken(Told x) {
        x.row(0, 0, 1);
        x.set(0, 0, 8);
        x.due(x.fits(0, 0, 0, 1, 0), 1 << 1);
        x.due(x.fits(0, 0, 0, 1, 1), 1 << 2);
        x.due(x.fits(0, 0, 0, 1, 2), 62);
        x.due(x.fits(0, 0, 0, 1, 3), 1 << 2 | 1 << 16 | 1 << 21);
        x.due(x.fire(5, 5, 0), 1);
        x.due(x.fire(5, 5, 1), 2);
        x.due(x.drawn(1, 1, 0), 14);
        x.due(x.drawn(1, 1, 1), 1);
    }

    private static void undoAndRestore(Told x) {
        x.due(x.image(0), 1);
        for (int left = 3; left >= 0; left--) {
            x.due(x.undo(), left);
        }
        x.due(x.count(2), 0);
        x.due(x.count(4), 0);
        x.due(x.count(8), 5);
        x.due(x.restore(0), 1);
        x.due(x.count(2), 1);
        x.due(x.count(4), 6);
        x.due(x.count(8), 4);
    }

    // ---- 512 calls

    /** One of each call, each as the 512th of an object, must answer as it does on one that was used for few. */
    static void promise01_the512thCall() {
        Edge.says("An object is used for at most 512 calls after it has been made");
        for (ToIntFunction<Told> last : oneOfEach()) {
            Told young = withRow();
            Told old = withRow();
            while (old.calls() < 511) {
                old.count(old.calls() % 9);
            }
            int want = last.applyAsInt(young);
            old.due(last.applyAsInt(old), want);
            Edge.check(want > Edge.NONE, young.latest() + " was refused");
        }
    }

    private static Told withRow() {
        Told x = Edge.with(Edge.FIVE);
        x.row(0, 0, 4);
        x.set(0, 0, 34);
        x.image(0);
        x.seasons(2);
        x.ask(1, 0);
        x.type(Edge.BARE);
        return x;
    }

    private static List<ToIntFunction<Told>> oneOfEach() {
        List<ToIntFunction<Told>> calls = new ArrayList<>(List.of(x -> x.row(1, 2, 40), x -> x.set(0, 3, 200),
                x -> x.copy(0, 0, 0, 1, 3), x -> x.drop(0), x -> x.feed('w'), x -> x.coast(), x -> x.fault(),
                x -> x.seasons(24), x -> x.build(4), x -> x.turn(4, 0)));
        calls.addAll(List.of(x -> x.buy(2), x -> x.undo(), x -> x.pier(2, 4), x -> x.ahead(4, 3, 0), x -> x.purse(60),
                x -> x.gone(4), x -> x.aim(4, 4, 5, 0), x -> x.take(9, 99), x -> x.give(6, -1), x -> x.turning(6, 2)));
        calls.addAll(List.of(x -> x.cross(0), x -> x.fits(2, 0, 0, 1, 3), x -> x.fire(5, 3, 0), x -> x.drawn(60, 9, 0),
                x -> x.image(1), x -> x.restore(0), x -> x.kind(4), x -> x.as(4, 4), x -> x.ask(4, 1), x -> x.trace(5)));
        calls.addAll(List.of(x -> x.count(8), x -> x.status()));
        return calls;
    }

    /** 512 calls of which nearly all change something. */
    static void promise01_512Acts() {
        Edge.says("An object is used for at most 512 calls after it has been made");
        Told x = Edge.with(Edge.CALM);
        for (int k = 0; k < 122; k++) {
            x.due(x.build(0), 5);
            x.due(x.turn(0, 2), 1);
            x.due(x.undo(), 1);
            x.due(x.undo(), 0);
        }
        x.due(x.seasons(1), 20);
        x.due(x.count(8), 4);
        x.due(x.count(5), 9);
        x.due(x.undo(), 0);
        Edge.check(x.calls() == 512, "the test makes " + x.calls() + " calls");
    }

    /** What they answer is free, but they answer: no call may throw. */
    static void promise01_laterCallsAnswer() {
        Edge.says("what later calls answer is free");
        PierYears x = new PierYears();
        for (char letter : Edge.FIVE.toCharArray()) {
            x.feed(letter);
        }
        x.coast();
        for (int k = 0; k < 300; k++) {
            x.row(k % 8, k % 3, k % 41);
            x.set(k % 8, k % 41, k);
            x.seasons(1);
            x.build(k % 5);
            x.turn(k % 5, k % 3);
            x.buy(1);
            x.give(60, k % 5);
            x.fits(k % 5, k % 8, 0, 1, k % 4);
            x.drawn(60, k + 1, 0);
            x.ask(k % 5, k % 2);
            x.feed('l');
        }
        Edge.check(x.count(9) == Edge.BAD && x.count(1) == 5, "count() answered otherwise behind 3000 calls");
    }

    // ---- the public face

    static void promise01_theFaceIsAsTold() {
        Edge.says("public final class PierYears {",
                "    public static final int NONE = -1000000, BAD = -1000001, STATE = -1000002, FULL = -1000003;",
                "    public PierYears();");
        String source = Edge.source();
        int members = 0;
        for (String line : Edge.part(Edge.document(), "public final class", "```").split("\n")) {
            String told = line.endsWith(");") ? line.substring(0, line.length() - 1) + " {" : line;
            if (line.contains("public")) {
                Edge.check(source.contains("\n" + told + "\n"), "the class does not have: " + told);
                members++;
            }
        }
        Edge.check(members == 35, "the document's face has " + members + " public lines");
        Edge.check(source.split("public ").length - 1 == members, "the class has other public members");
        Edge.check(PierYears.NONE == -1000000 && PierYears.BAD == -1000001, "NONE or BAD is not as told");
        Edge.check(PierYears.STATE == -1000002 && PierYears.FULL == -1000003, "STATE or FULL is not as told");
    }

    static void promise01_whatTheInterfaceSays() {
        Edge.says("Ahead of the calls `row`, `set`, `copy`, `drop` the interface says: ---- rows.",
                "Ahead of the calls `feed`, `coast`, `fault`, `seasons`, `build`, `turn`, `buy`, `undo`, `pier` the interface "
                + "says: ---- coasts, acts.",
                "Ahead of the calls `ahead`, `purse`, `gone`, `aim`, `take`, `give`, `turning`, `cross`, `fits`, `fire`, "
                + "`drawn`, `image`, `restore` the interface says: ---- foretold.",
                "Ahead of the calls `kind`, `as`, `ask`, `trace`, `count`, `status` the interface says: ---- asked.");
        String source = Edge.source();
        dueUnder(source, "rows", "row", "drop");
        dueUnder(source, "coasts, acts", "feed", "pier");
        dueUnder(source, "foretold", "ahead", "restore");
        dueUnder(source, "asked", "kind", "status");
    }

    /** Of the calls between two of these headings, the first and the last. */
    private static void dueUnder(String source, String heading, String first, String last) {
        String calls = Edge.part(source, "    // ---- " + heading + "\n", "    // ---- ");
        int start = calls.indexOf("public int ");
        int end = calls.lastIndexOf("public int ");
        Edge.check(start >= 0 && calls.startsWith(first + "(", start + 11), "ahead of " + first + ": ---- " + heading);
        Edge.check(end >= 0 && calls.startsWith(last + "(", end + 11), "the last below ---- " + heading + ": " + last);
    }

    // ---- terms

    /** Each thing that bears a number: the first of its sort is 0, and the last is one less than there are. */
    static void promise01_numbersGoFrom0() {
        Edge.says("Numbers go from 0 on.");
        Told x = new Told();
        x.due(x.read("x"), Edge.FAULTY);
        x.due(x.read(Edge.FIVE), 5);
        x.due(x.count(2), 0);
        x.due(x.kind(0), 1);
        x.due(x.kind(4), 5);
        x.due(x.as(0, 0), 0);
        x.due(x.row(0, 0, 2), 2);
        x.due(x.row(7, 0, 2), 2);
        x.due(x.set(0, 0, 3), 3);
        x.due(x.set(0, 1, 3), 3);
        x.due(x.set(0, 2, 3), Edge.PLACE);
        x.due(x.image(0), 1);
        x.due(x.image(1), 1);
        x.due(x.ask(3, 0), -100);
        x.due(x.trace(0), 13);
        x.due(x.trace(1), 10);
        x.due(x.trace(2), Edge.NONE);
        x.due(x.give(1, 0), 1);
        x.due(x.give(1, 4), 3);
    }

    // ---- terms, 1

    static void promise02_whatARowIs() {
        Edge.says("ROWS 0 .. 7 are missing (at first), or have a LANE (0 bytes, 1 shorts, 2 ints) and 0 to 40 ITEMS, "
                + "0 at first.");
        int[] kept = {0x78, 0x5678, 0x12345678};
        for (int lane = 0; lane <= 2; lane++) {
            Told x = Edge.with(Edge.SEEING);
            for (int row = 0; row <= 7; row++) {
                x.due(x.drop(row), Edge.NULL);
                x.due(x.row(row, lane, 5 * row), 5 * row);
                for (int i = 0; i < 5 * row; i += 4) {
                    x.due(x.seen(row, i), 0);
                }
                x.due(x.seen(row, 5 * row), Edge.PLACE);
                x.due(x.set(row, 5 * row - 1, 0x12345678), row == 0 ? Edge.PLACE : kept[lane]);
            }
            x.due(x.count(0), 8);
        }
    }

    static void promise06_theTape() {
        Edge.says("TEXTS: THE TAPE has at most 100 bytes, that come one by one; TOKENS: letters a to z (each by itself), "
                + "NUMBERS (figures, 2 at most), SIGNS , and ; nothing else, no blanks.");
        Told x = new Told();
        String text = "l1,02,3,4,5;w06,1,7;";
        for (int k = 0; k < text.length(); k++) {
            x.due(x.feed(text.charAt(k)), k + 1);
            x.due(x.count(7), k + 1);
        }
        x.due(x.coast(), 1);
        x.due(x.pier(0, 0), 6);
        x.due(x.pier(0, 2), 7);
        x.due(x.read("ll"), Edge.FAULTY - 1);
        x.due(x.read("l,,"), Edge.FAULTY - 1);
        x.due(x.read("l1;"), Edge.FAULTY - 2);
        x.due(x.read("l1 ,"), Edge.FAULTY - 2);
        x.due(x.read("l1,1,1,1,1;wi"), Edge.FAULTY - 12);
        x.due(x.read("l1,1,1,1,1;w001"), Edge.FAULTY - 12);
        x.due(x.fault(), 1);
    }

    static void promise07_faults() {
        Edge.says("FAULTS, the first TOKEN that has one (its first byte), of one TOKEN the least: 1 it cannot stand there, or "
                + "is none (a run of three figures, at its first; the end: how many bytes there are); 2 a NUMBER that is not "
                + "as told; 3 a pier more than there is room for (its letter).");
        String five = "l1,1,1,1,1;i1,1,1;c1,1,1;r1,1,1;w1,1,1;p1,1,1;";
        dueFault("l1,10,#", 3, 2);
        dueFault("l1,1#10", 4, 1);
        dueFault("l1,1,100,", 5, 1);
        dueFault("l1,1,31,1,1;i", 5, 2);
        dueFault("l1,1,30,1,", 10, 1);
        dueFault("l1,1,30,1,1;i9,03,9", 15, 2);
        dueFault("l1,1,30,1,1;i9,02,10", 18, 2);
        dueFault("l1,1,30,1,1;l", 12, 1);
        dueFault(five + "i", 46, 3);
        dueFault(five + "p99", 46, 3);
        dueFault(five + "l", 46, 1);
        dueFault(five + "9", 46, 1);
    }

    private static void dueFault(String text, int place, int number) {
        Told x = new Told();
        x.due(x.read(text), Edge.FAULTY - place);
        x.due(x.fault(), number);
        x.due(x.count(1), 0);
        x.due(x.count(7), 0);
    }

    static void promise33_findingsAreNumbered() {
        Edge.says("then FINDINGS, of several the first in time: -1000010 less 1 NULL (a ROW that is missing), 2 PLACE (no such "
                + "place of a ROW), 3 KIND (a PIER that is not that), 4 SIZE (fewer than none), 5 STORE (ROWS of two LANES).");
        Told x = Edge.with(Edge.CALM);
        x.row(0, 0, 1);
        x.row(1, 1, 1);
        dueFinding(x, x.drop(2), 1);
        dueFinding(x, x.set(0, 1, 0), 2);
        dueFinding(x, x.as(0, 4), 3);
        dueFinding(x, x.row(0, 0, -1), 4);
        dueFinding(x, x.copy(0, 0, 1, 0, 1), 5);
        dueFinding(x, x.copy(0, -1, 1, 0, 9), 5);
        dueFinding(x, x.copy(0, -1, 2, 0, 9), 1);
    }

    private static void dueFinding(Told x, int got, int number) {
        x.due(got, -1000010 - number);
        x.due(x.status(), number);
    }

    // ---- terms, 2

    /** From everywhere, by each LEAN, by as many SPANS as a text can tell, span by span. */
    static void promise14_eachEnd() {
        Edge.says("A PIER that LEANS 0 goes one place down the coast by each span, 1 straight out, 2 one place up; there are ten "
                + "PLACES, round about (0 beside 9). Its END is as far OUT as it has SPANS, at the PLACE to which it comes so "
                + "from FROM. The TAKE there: PLACE times ALONG, and SPANS times OUT, what is left over by ROUND; 0, if it "
                + "has no SPANS.", "Of a PIER: 0 FROM, 1 LEAN, 2 SPANS, 3 the PLACE of its END, 4 the TAKE there");
        for (int from = 0; from <= 9; from++) {
            for (int lean = 0; lean <= 2; lean++) {
                int place = from;
                for (int spans = 0; spans <= 9; spans++) {
                    dueEnd(from, lean, spans, place);
                    place = beside(place, lean);
                }
            }
        }
    }

    private static int beside(int place, int lean) {
        if (lean == 0) {
            return place == 0 ? 9 : place - 1;
        }
        if (lean == 2) {
            return place == 9 ? 0 : place + 1;
        }
        return place;
    }

    private static void dueEnd(int from, int lean, int spans, int place) {
        Told x = Edge.with("l7,8,29,0,0;w" + from + "," + lean + "," + spans + ";");
        x.due(x.pier(0, 0), from);
        x.due(x.pier(0, 1), lean);
        x.due(x.pier(0, 2), spans);
        x.due(x.pier(0, 3), place);
        x.due(x.pier(0, 4), spans == 0 ? 0 : (7 * place + 8 * spans) % 29);
    }

    /** STORMS of all GALES, in ten SEASONS, and what each takes of each KIND: of GALE g that of GALE 1 as often as g. */
    static void promise09_whatEachStormTakes() {
        Edge.says("The STORM of a SEASON t (0 on) is what is left over of t and 1, times GALE, by 5. It takes of a PIER: of one "
                + "of iron as many spans as the STORM; of cast iron half of that (cut); of a rusty one as of iron, and 1 more "
                + "in SEASONS that are even; of one of wood 1, if the STORM is above 0; of one on piles so, but only if the "
                + "STORM is 4 (none are below 0).");
        int[] halves = {0, 0, 1, 1, 2};
        for (int gale = 0; gale <= 9; gale++) {
            Told x = Edge.with("l0,0,1," + gale + ",0;i0,1,9;c0,1,9;r0,1,9;w0,1,9;p0,1,9;");
            int[] left = {9, 9, 9, 9, 9};
            for (int season = 0; season < 10; season++) {
                int storm = STORM_BY_GALE_1[season % 5] * gale % 5;
                int[] lost = {storm, halves[storm], season % 2 == 0 ? storm + 1 : storm, storm > 0 ? 1 : 0, storm == 4 ? 1 : 0};
                x.due(x.count(3), storm);
                for (int pier = 0; pier < 5; pier++) {
                    x.due(x.pier(pier, 5), Math.min(lost[pier], left[pier]));
                    left[pier] = Math.max(0, left[pier] - lost[pier]);
                }
                x.seasons(1);
                for (int pier = 0; pier < 5; pier++) {
                    x.due(x.pier(pier, 2), left[pier]);
                }
            }
        }
    }

    static void promise09_aSeason() {
        Edge.says("A SEASON: PURSE is what all ENDS TAKE, together, more (9999 at most); then the STORM takes of all PIERS; "
                + "SEASON is 1 more.");
        Told x = Edge.with(Edge.FIVE);
        x.due(x.seasons(1), 7 + 8 + 12 + 4 + 3);
        int[] left = {3, 3, 6, 2, 2};
        for (int pier = 0; pier < 5; pier++) {
            x.due(x.pier(pier, 2), left[pier]);
        }
        x.due(x.count(2), 1);
        x.due(x.count(4), 34);
    }

    static void promise13_eachAct() {
        Edge.says("ACTS (24 at most are kept, of more the oldest is forgotten; each can be undone, the latest first): a SEASON; a "
                + "span is built (IRON is 1 less, SPANS 1 more); a PIER is turned (it LEANS otherwise); IRON is bought (each "
                + "for 5 of PURSE; 99 at most).");
        Told x = Edge.with(Edge.FIVE);
        x.due(x.seasons(1), 34);
        x.due(x.build(2), 7);
        x.due(x.turn(2, 0), 1);
        x.due(x.buy(3), 8);
        x.due(x.count(6), 4);
        dueState(x, 1, 19, 8, 7, 0);
        x.due(x.undo(), 3);
        dueState(x, 1, 34, 5, 7, 0);
        x.due(x.undo(), 2);
        dueState(x, 1, 34, 5, 7, 1);
        x.due(x.undo(), 1);
        dueState(x, 1, 34, 6, 6, 1);
        x.due(x.undo(), 0);
        dueState(x, 0, 0, 6, 9, 1);
    }

    private static void dueState(Told x, int season, int purse, int iron, int spans, int lean) {
        x.due(x.count(2), season);
        x.due(x.count(4), purse);
        x.due(x.count(5), iron);
        x.due(x.pier(2, 2), spans);
        x.due(x.pier(2, 1), lean);
    }
}
