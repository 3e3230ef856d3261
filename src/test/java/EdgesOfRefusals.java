import java.util.ArrayList;
import java.util.List;
import java.util.function.Supplier;

/**
 * "What is refused, or found, changes nothing but status()", for each refusal of each call; and that what only looks
 * changes nothing. An object on which such a call was made is looked at whole, beside a twin on which it was not.
 */
public final class EdgesOfRefusals {
    private static final String SENTENCE = "What is refused, or found, changes nothing but status().";

    public static void main(String[] args) {
        Edge.run(EdgesOfRefusals.class);
    }

    private interface Call {
        int on(Told x);
    }

    // ---- objects on which calls are refused

    /** Rows, a tape that can be read, a fault, a status; no COAST. */
    private static Told withoutCoast() {
        Told x = new Told();
        x.read("l10");
        x.row(0, 0, 3);
        x.setAll(0, 1, 2, 3);
        x.row(3, 1, 2);
        x.setAll(3, 4, 5);
        x.row(5, 1, 3);
        x.setAll(5, 6, 7, 8);
        x.row(7, 2, 0);
        x.type("l1,2,29,3,4;w5,2,6;");
        x.set(0, 3, 0);
        return x;
    }

    /** All that there is: a COAST with ACTS and two IMAGES, THE TRACE, too. */
    private static Told withAll() {
        Told x = withFault("l10");
        x.type("l1,2,29,3,4;w5,2,6;");
        return x;
    }

    /** All but a tape; the latest FAULT is that of a text. */
    private static Told withFault(String text) {
        Told x = new Told();
        x.read(Edge.FIVE);
        x.image(0);
        x.seasons(2);
        x.image(1);
        x.build(1);
        x.turn(3, 0);
        x.buy(2);
        x.read(text);
        x.row(0, 0, 3);
        x.setAll(0, 1, 2, 3);
        x.row(3, 1, 2);
        x.setAll(3, 4, 5);
        x.row(5, 1, 3);
        x.setAll(5, 6, 7, 8);
        x.row(7, 2, 0);
        x.ask(4, 1);
        x.as(0, 2);
        return x;
    }

    private static Told inLastSeason() {
        return Edge.inSeason(999, "l0,1,30,0,9;w0,1,1;");
    }

    private static Told withoutIron() {
        return Edge.with("l0,1,30,0,0;i0,1,5;");
    }

    // ---- looking at all of an object

    private static void look(List<String> seen, Told x, int answer) {
        seen.add(x.latest() + " is " + answer);
    }

    private static void lookAtCoast(List<String> seen, Told x) {
        for (int what = 1; what <= 8; what++) {
            look(seen, x, x.count(what));
        }
        int piers = x.count(1);
        for (int pier = 0; pier < piers; pier++) {
            for (int what = 0; what <= 5; what++) {
                look(seen, x, x.pier(pier, what));
            }
            look(seen, x, x.kind(pier));
        }
        look(seen, x, x.take(1, 1));
        look(seen, x, x.take(9, 2));
        look(seen, x, x.purse(7));
    }

    private static void lookAtActs(List<String> seen, Told x) {
        int acts = x.count(6);
        for (int k = 0; k <= acts; k++) {
            look(seen, x, x.undo());
            look(seen, x, x.count(2));
            look(seen, x, x.count(4));
            look(seen, x, x.count(5));
            look(seen, x, x.count(8));
        }
        for (int pier = 0; pier < x.count(1); pier++) {
            look(seen, x, x.pier(pier, 1));
        }
    }

    private static void lookAtRows(List<String> seen, Told x) {
        x.read(Edge.SEEING);
        for (int row = 0; row < 8; row++) {
            int i = 0;
            while (x.fits(0, row, i, 1, 1) >= 0 && i < 4) {
                look(seen, x, x.seen(row, i));
                i++;
            }
            // the LANE, by what it keeps of a number
            look(seen, x, x.set(row, 0, 0x12345));
            look(seen, x, x.drop(row));
        }
    }

    /** Looks that change something come last, each behind all that it would hide. */
    private static List<String> lookAtAll(Told x, boolean withStatus) {
        List<String> seen = new ArrayList<>();
        if (withStatus) {
            look(seen, x, x.status());
        }
        look(seen, x, x.fault());
        for (int i = 0; i < 6; i++) {
            look(seen, x, x.trace(i));
        }
        look(seen, x, x.count(0));
        lookAtCoast(seen, x);
        lookAtActs(seen, x);
        for (int k = 0; k <= 1; k++) {
            if (x.restore(k) == 1) {
                lookAtCoast(seen, x);
            }
        }
        look(seen, x, x.coast());
        lookAtCoast(seen, x);
        lookAtRows(seen, x);
        return seen;
    }

    private static void dueAlike(String call, Told one, Told twin, boolean withStatus) {
        List<String> changed = lookAtAll(one, withStatus);
        List<String> unchanged = lookAtAll(twin, withStatus);
        for (int k = 0; k < Math.min(changed.size(), unchanged.size()); k++) {
            boolean isAlike = changed.get(k).equals(unchanged.get(k));
            Edge.check(isAlike, "behind " + call + " " + changed.get(k) + ", on the twin " + unchanged.get(k));
        }
        Edge.check(changed.size() == unchanged.size(), "behind " + call + " more or less is seen than on the twin");
    }

    /** The call is refused, and nothing has changed; what is found tells its number in status(). */
    private static void refused(Supplier<Told> maker, int want, Call... calls) {
        Edge.says(SENTENCE);
        for (Call call : calls) {
            Told x = maker.get();
            x.due(call.on(x), want);
            String text = x.latest();
            boolean isFound = want <= Edge.NULL && want >= Edge.STORE;
            if (isFound) {
                x.due(x.status(), -1000010 - want);
            }
            dueAlike(text, x, maker.get(), !isFound);
        }
    }

    /** Calls that only look, each on an object of its own. */
    private static void changesNothing(boolean withStatus, Call... calls) {
        for (Call call : calls) {
            Told x = withAll();
            call.on(x);
            dueAlike(x.latest(), x, withAll(), withStatus);
        }
    }

    // ---- rows

    static void promise02_row() {
        refused(EdgesOfRefusals::withAll, Edge.BAD, x -> x.row(-1, 0, 1), x -> x.row(8, 0, 1), x -> x.row(0, -1, 1),
            x -> x.row(0, 3, 1), x -> x.row(0, 0, 41), x -> x.row(8, 3, -1));
        refused(EdgesOfRefusals::withAll, Edge.SIZE, x -> x.row(0, 1, -1), x -> x.row(1, 0, -1), x -> x.row(7, 0, Edge.LEAST));
    }

    static void promise03_set() {
        refused(EdgesOfRefusals::withAll, Edge.BAD, x -> x.set(-1, 0, 9), x -> x.set(8, 0, 9));
        refused(EdgesOfRefusals::withAll, Edge.NULL, x -> x.set(1, 0, 9), x -> x.set(6, -1, 9));
        refused(EdgesOfRefusals::withAll, Edge.PLACE, x -> x.set(0, -1, 9), x -> x.set(0, 3, 9), x -> x.set(7, 0, 9),
            x -> x.set(5, 3, 9), x -> x.set(3, 40, 9));
    }

    static void promise04_copy() {
        refused(EdgesOfRefusals::withAll, Edge.BAD, x -> x.copy(-1, 0, 0, 0, 1), x -> x.copy(0, 0, 8, 0, 1));
        refused(EdgesOfRefusals::withAll, Edge.NULL, x -> x.copy(1, 0, 0, 0, 1), x -> x.copy(0, 0, 1, 0, 1));
        refused(EdgesOfRefusals::withAll, Edge.STORE, x -> x.copy(0, 0, 3, 0, 1), x -> x.copy(3, 0, 7, 0, 0));
        refused(EdgesOfRefusals::withAll, Edge.PLACE, x -> x.copy(5, -1, 3, 0, 1), x -> x.copy(5, 0, 3, -1, 1),
            x -> x.copy(5, 1, 3, 1, -1), x -> x.copy(5, 0, 3, 0, 3), x -> x.copy(5, 2, 3, 0, 2), x -> x.copy(3, 1, 5, 0, 2),
            x -> x.copy(0, 0, 0, 1, 3));
    }

    static void promise05_drop() {
        refused(EdgesOfRefusals::withAll, Edge.BAD, x -> x.drop(-1), x -> x.drop(8));
        refused(EdgesOfRefusals::withAll, Edge.NULL, x -> x.drop(1), x -> x.drop(6));
    }

    // ---- coasts, acts

    static void promise06_feed() {
        refused(EdgesOfRefusals::withAll, Edge.BAD, x -> x.feed(-1), x -> x.feed(256));
        refused(() -> Edge.withTape(100), Edge.FULL, x -> x.feed(0), x -> x.feed('l'));
        refused(() -> Edge.withTape(100), Edge.BAD, x -> x.feed(256));
    }

    static void promise07_coast() {
        Edge.says("-1000100 less the place of a FAULT: all stays.");
        String five = "l9,9,30,9,9;" + "i9,0,9;".repeat(5);
        String[][] texts = {{"", "l1", five + "x", five + ";"}, {"l10", "l9,9,31", five.replace("0,9;", "0,10;")}, {five + "p", five + "i1,1,1;"}};
        for (int number = 1; number <= 3; number++) {
            for (String text : texts[number - 1]) {
                Told x = withFault(texts[number - 1][0]);
                Edge.check(x.read(text) <= Edge.FAULTY, "a text without a fault: " + text);
                x.due(x.fault(), number);
                dueAlike("coast() of " + text, x, withFault(texts[number - 1][0]), true);
            }
        }
    }

    static void promise09_seasons() {
        refused(EdgesOfRefusals::withoutCoast, Edge.STATE, x -> x.seasons(1), x -> x.seasons(0));
        refused(EdgesOfRefusals::withAll, Edge.BAD, x -> x.seasons(0), x -> x.seasons(25), x -> x.seasons(-1));
        refused(EdgesOfRefusals::inLastSeason, Edge.FULL, x -> x.seasons(1), x -> x.seasons(24));
        refused(() -> Edge.inSeason(990, "l0,1,30,0,9;w0,1,1;"), Edge.FULL, x -> x.seasons(10));
    }

    static void promise10_build() {
        refused(EdgesOfRefusals::withoutCoast, Edge.BAD, x -> x.build(0));
        refused(EdgesOfRefusals::withAll, Edge.BAD, x -> x.build(-1), x -> x.build(5));
        refused(EdgesOfRefusals::withoutIron, Edge.STATE, x -> x.build(0));
        refused(() -> Edge.withLongPier(99, 1), Edge.FULL, x -> x.build(0));
        refused(() -> Edge.withLongPier(99, 0), Edge.STATE, x -> x.build(0));
    }

    static void promise11_turn() {
        refused(EdgesOfRefusals::withAll, Edge.BAD, x -> x.turn(-1, 0), x -> x.turn(5, 0), x -> x.turn(0, -1), x -> x.turn(0, 3));
        refused(EdgesOfRefusals::withAll, Edge.STATE, x -> x.turn(0, 2), x -> x.turn(3, 0), x -> x.turn(4, 1));
    }

    static void promise12_buy() {
        refused(EdgesOfRefusals::withoutCoast, Edge.STATE, x -> x.buy(1), x -> x.buy(0));
        refused(EdgesOfRefusals::withAll, Edge.BAD, x -> x.buy(0), x -> x.buy(21), x -> x.buy(-1));
        refused(EdgesOfRefusals::withAll, Edge.STATE, x -> x.buy(12), x -> x.buy(20));
        refused(() -> Edge.withIron(99), Edge.FULL, x -> x.buy(1), x -> x.buy(6));
        refused(() -> Edge.withIron(99), Edge.STATE, x -> x.buy(7));
    }

    static void promise13_undo() {
        refused(EdgesOfRefusals::withoutCoast, Edge.STATE, x -> x.undo());
        refused(EdgesOfRefusals::withoutIron, Edge.STATE, x -> x.undo());
    }

    static void promise14_pier() {
        refused(EdgesOfRefusals::withAll, Edge.BAD, x -> x.pier(-1, 0), x -> x.pier(5, 0), x -> x.pier(0, -1), x -> x.pier(0, 6));
        changesNothing(true, x -> x.pier(4, 0), x -> x.pier(0, 5));
    }

    // ---- foretold

    static void promise15_ahead() {
        refused(EdgesOfRefusals::withAll, Edge.BAD, x -> x.ahead(5, 1, 0), x -> x.ahead(0, 61, 0), x -> x.ahead(0, 1, 2));
        changesNothing(true, x -> x.ahead(0, 60, 0), x -> x.ahead(1, 1, 1));
    }

    static void promise16_purse() {
        refused(EdgesOfRefusals::withoutCoast, Edge.STATE, x -> x.purse(0), x -> x.purse(61));
        refused(EdgesOfRefusals::withAll, Edge.BAD, x -> x.purse(-1), x -> x.purse(61));
        changesNothing(true, x -> x.purse(0), x -> x.purse(60));
    }

    static void promise17_gone() {
        refused(EdgesOfRefusals::withAll, Edge.BAD, x -> x.gone(-1), x -> x.gone(5));
        changesNothing(true, x -> x.gone(0), x -> x.gone(4));
    }

    static void promise18_aim() {
        refused(EdgesOfRefusals::withAll, Edge.BAD, x -> x.aim(5, 0, 1, 0), x -> x.aim(0, 10, 1, 0), x -> x.aim(0, 0, 21, 0));
        refused(EdgesOfRefusals::withAll, Edge.NONE, x -> x.aim(0, 9, 20, 0), x -> x.aim(0, 5, 1, 0));
        changesNothing(true, x -> x.aim(0, 3, 1, 0), x -> x.aim(4, 4, 3, 1));
    }

    static void promise19_take() {
        refused(EdgesOfRefusals::withoutCoast, Edge.STATE, x -> x.take(0, 0), x -> x.take(10, 0));
        refused(EdgesOfRefusals::withAll, Edge.BAD, x -> x.take(10, 0), x -> x.take(0, 100));
        changesNothing(true, x -> x.take(9, 99));
    }

    static void promise20_give() {
        refused(EdgesOfRefusals::withoutCoast, Edge.STATE, x -> x.give(0, 0), x -> x.give(61, 9));
        refused(EdgesOfRefusals::withAll, Edge.BAD, x -> x.give(61, 0), x -> x.give(0, -3), x -> x.give(0, 5));
        refused(EdgesOfRefusals::withoutIron, Edge.NONE, x -> x.give(0, 1));
        changesNothing(true, x -> x.give(60, -1), x -> x.give(5, -2), x -> x.give(5, 4));
    }

    static void promise21_turning() {
        refused(EdgesOfRefusals::withoutCoast, Edge.STATE, x -> x.turning(0, 0), x -> x.turning(61, 3));
        refused(EdgesOfRefusals::withAll, Edge.BAD, x -> x.turning(61, 0), x -> x.turning(0, 3));
        refused(() -> Edge.with(Edge.BARE), Edge.NONE, x -> x.turning(1, 0));
        changesNothing(true, x -> x.turning(60, 0), x -> x.turning(5, 1), x -> x.turning(5, 2));
    }

    static void promise22_cross() {
        refused(EdgesOfRefusals::withoutCoast, Edge.STATE, x -> x.cross(0), x -> x.cross(3));
        refused(EdgesOfRefusals::withAll, Edge.BAD, x -> x.cross(-1), x -> x.cross(3));
        changesNothing(true, x -> x.cross(0), x -> x.cross(1), x -> x.cross(2));
    }

    static void promise23_fits() {
        refused(EdgesOfRefusals::withAll, Edge.BAD, x -> x.fits(5, 0, 0, 1, 0), x -> x.fits(0, 8, 0, 1, 0),
            x -> x.fits(0, 0, 0, 17, 0), x -> x.fits(0, 0, 0, 0, 0), x -> x.fits(0, 0, 0, 1, 4));
        refused(EdgesOfRefusals::withAll, Edge.NULL, x -> x.fits(0, 1, 0, 1, 0));
        refused(EdgesOfRefusals::withAll, Edge.PLACE, x -> x.fits(0, 0, 3, 1, 0), x -> x.fits(0, 0, -1, 1, 0), x -> x.fits(0, 0, 0, 4, 0));
        // it had no finding: status() is 0 then, and nothing else is otherwise
        changesNothing(false, x -> x.fits(0, 0, 0, 1, 0), x -> x.fits(4, 5, 0, 3, 1), x -> x.fits(1, 5, 1, 2, 2), x -> x.fits(2, 0, 0, 3, 3));
    }

    static void promise24_fire() {
        refused(EdgesOfRefusals::withoutCoast, Edge.STATE, x -> x.fire(0, 0, 0), x -> x.fire(201, 11, 2));
        refused(EdgesOfRefusals::withAll, Edge.BAD, x -> x.fire(201, 0, 0), x -> x.fire(0, 11, 0), x -> x.fire(0, 0, 2));
        changesNothing(true, x -> x.fire(10, 3, 0), x -> x.fire(10, 3, 1));
    }

    static void promise25_drawn() {
        refused(EdgesOfRefusals::withoutCoast, Edge.STATE, x -> x.drawn(0, 1, 0), x -> x.drawn(61, 0, 2));
        refused(EdgesOfRefusals::withAll, Edge.BAD, x -> x.drawn(61, 1, 0), x -> x.drawn(0, 0, 0), x -> x.drawn(0, 1, 2));
        changesNothing(true, x -> x.drawn(60, 2, 0), x -> x.drawn(9, 999999, 1));
    }

    static void promise26_image() {
        refused(EdgesOfRefusals::withoutCoast, Edge.STATE, x -> x.image(0), x -> x.image(1));
        refused(EdgesOfRefusals::withoutCoast, Edge.BAD, x -> x.image(2), x -> x.image(-1));
        refused(EdgesOfRefusals::withAll, Edge.BAD, x -> x.image(2), x -> x.image(-1));
    }

    static void promise27_restore() {
        refused(EdgesOfRefusals::withoutCoast, Edge.STATE, x -> x.restore(0), x -> x.restore(1));
        refused(EdgesOfRefusals::withoutIron, Edge.STATE, x -> x.restore(0), x -> x.restore(1));
        refused(EdgesOfRefusals::withAll, Edge.BAD, x -> x.restore(2), x -> x.restore(-1));
    }

    // ---- asked

    static void promise28_kind() {
        refused(EdgesOfRefusals::withAll, Edge.BAD, x -> x.kind(-1), x -> x.kind(5));
        changesNothing(true, x -> x.kind(4));
    }

    static void promise29_as() {
        refused(EdgesOfRefusals::withAll, Edge.BAD, x -> x.as(5, 0), x -> x.as(-1, 0), x -> x.as(0, 6), x -> x.as(0, -1));
        refused(EdgesOfRefusals::withAll, Edge.KIND, x -> x.as(0, 5), x -> x.as(4, 1));
        changesNothing(false, x -> x.as(4, 4));
    }

    static void promise30_ask() {
        refused(EdgesOfRefusals::withAll, Edge.BAD, x -> x.ask(5, 0), x -> x.ask(-1, 0), x -> x.ask(0, 2), x -> x.ask(0, -1));
        changesNothing(true, x -> x.ask(4, 1));
    }

    static void promise31_trace() {
        refused(EdgesOfRefusals::withAll, Edge.NONE, x -> x.trace(5), x -> x.trace(-1), x -> x.trace(16));
        changesNothing(true, x -> x.trace(0));
    }

    static void promise32_count() {
        refused(EdgesOfRefusals::withAll, Edge.BAD, x -> x.count(-1), x -> x.count(9));
        changesNothing(true, x -> x.count(0), x -> x.count(8));
    }

    static void promise33_status() {
        changesNothing(true, x -> x.status(), x -> x.fault());
    }
}
