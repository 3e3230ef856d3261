/** A PierYears whose calls are written down, so that a test can say which of them answered otherwise than is due. */
final class Told {
    private static final int MOST_CALLS = 512;

    private final PierYears object = new PierYears();
    private int calls = 0;
    private String latest = "PierYears()";

    String latest() {
        return latest;
    }

    int calls() {
        return calls;
    }

    void due(int got, int want) {
        Edge.check(got == want, latest + " answered " + got + ", due is " + want);
    }

    private int heard(int answer, String name, int... numbers) {
        StringBuilder text = new StringBuilder(name).append('(');
        for (int k = 0; k < numbers.length; k++) {
            text.append(k == 0 ? "" : ", ").append(numbers[k]);
        }
        latest = text.append(')').toString();
        calls++;
        Edge.check(calls <= MOST_CALLS, "the test makes more calls than an object is used for");
        return answer;
    }

    // ---- runs of calls

    void type(String text) {
        for (char letter : text.toCharArray()) {
            feed(letter);
        }
    }

    int read(String text) {
        type(text);
        int answer = coast();
        latest = "coast() of \"" + text + "\"";
        return answer;
    }

    void pass(int n) {
        for (int left = n; left > 0; left -= 24) {
            seasons(Math.min(24, left));
        }
    }

    void buildAll(int pier, int n) {
        for (int k = 0; k < n; k++) {
            build(pier);
        }
    }

    void buyAll(int n) {
        for (int left = n; left > 0; left -= 20) {
            buy(Math.min(20, left));
        }
    }

    void setAll(int row, int... items) {
        for (int i = 0; i < items.length; i++) {
            set(row, i, items[i]);
        }
    }

    /** An ITEM of 0 to 29, seen on a COAST of the text SEEING; else what fits() answers, or -1 for nothing. */
    int seen(int row, int i) {
        int bits = fits(0, row, i, 1, 3);
        if (bits < 0) {
            return bits;
        }
        return Integer.bitCount(bits) == 1 ? Integer.numberOfTrailingZeros(bits) : -1;
    }

    void dueItems(int row, int... items) {
        for (int i = 0; i < items.length; i++) {
            due(seen(row, i), items[i]);
        }
    }

    // ---- the face

    int row(int row, int lane, int n) {
        return heard(object.row(row, lane, n), "row", row, lane, n);
    }

    int set(int row, int i, int v) {
        return heard(object.set(row, i, v), "set", row, i, v);
    }

    int copy(int a, int i, int b, int j, int n) {
        return heard(object.copy(a, i, b, j, n), "copy", a, i, b, j, n);
    }

    int drop(int row) {
        return heard(object.drop(row), "drop", row);
    }

    int feed(int letter) {
        return heard(object.feed(letter), "feed", letter);
    }

    int coast() {
        return heard(object.coast(), "coast");
    }

    int fault() {
        return heard(object.fault(), "fault");
    }

    int seasons(int n) {
        return heard(object.seasons(n), "seasons", n);
    }

    int build(int pier) {
        return heard(object.build(pier), "build", pier);
    }

    int turn(int pier, int lean) {
        return heard(object.turn(pier, lean), "turn", pier, lean);
    }

    int buy(int n) {
        return heard(object.buy(n), "buy", n);
    }

    int undo() {
        return heard(object.undo(), "undo");
    }

    int pier(int pier, int what) {
        return heard(object.pier(pier, what), "pier", pier, what);
    }

    int ahead(int pier, int d, int what) {
        return heard(object.ahead(pier, d, what), "ahead", pier, d, what);
    }

    int purse(int d) {
        return heard(object.purse(d), "purse", d);
    }

    int gone(int pier) {
        return heard(object.gone(pier), "gone", pier);
    }

    int aim(int pier, int place, int out, int what) {
        return heard(object.aim(pier, place, out, what), "aim", pier, place, out, what);
    }

    int take(int place, int out) {
        return heard(object.take(place, out), "take", place, out);
    }

    int give(int d, int k) {
        return heard(object.give(d, k), "give", d, k);
    }

    int turning(int d, int what) {
        return heard(object.turning(d, what), "turning", d, what);
    }

    int cross(int what) {
        return heard(object.cross(what), "cross", what);
    }

    int fits(int pier, int row, int i, int n, int what) {
        return heard(object.fits(pier, row, i, n, what), "fits", pier, row, i, n, what);
    }

    int fire(int q, int c, int what) {
        return heard(object.fire(q, c, what), "fire", q, c, what);
    }

    int drawn(int n, int seed, int what) {
        return heard(object.drawn(n, seed, what), "drawn", n, seed, what);
    }

    int image(int k) {
        return heard(object.image(k), "image", k);
    }

    int restore(int k) {
        return heard(object.restore(k), "restore", k);
    }

    int kind(int pier) {
        return heard(object.kind(pier), "kind", pier);
    }

    int as(int pier, int kind) {
        return heard(object.as(pier, kind), "as", pier, kind);
    }

    int ask(int pier, int what) {
        return heard(object.ask(pier, what), "ask", pier, what);
    }

    int trace(int i) {
        return heard(object.trace(i), "trace", i);
    }

    int count(int what) {
        return heard(object.count(what), "count", what);
    }

    int status() {
        return heard(object.status(), "status");
    }
}
