/** Piers built out into the years: what they take, what storms leave of them, and what is foretold of them. */
public final class PierYears {
    public static final int NONE = -1000000, BAD = -1000001, STATE = -1000002, FULL = -1000003;

    private static final int FOUND = -1000010, FAULTY = -1000100;
    private static final int NULL = 1, PLACE = 2, KIND = 3, SIZE = 4, STORE = 5;
    private static final int MOST_AHEAD = 60, MOST_GIVEN = 9, SHARES = MOST_GIVEN + 1;
    private static final int MOST_SEASON = 999, PRICE = 5;
    // by what fits() is asked: FROM, LEAN, KIND, SPANS
    private static final int[] LEAST_FIT = {0, 0, 1, 0};
    private static final int[] MOST_FIT = {9, 2, 5, 29};

    private final Rows rows = new Rows();
    private final Tape tape = new Tape();
    private final Coast now = new Coast();
    private final Coast foretold = new Coast();
    private final Coast firstImage = new Coast();
    private final Coast secondImage = new Coast();
    private final Past past = new Past();
    private final Asking asking = new Asking();
    private final Irons irons = new Irons();
    private final Cast cast = new Cast();
    private final Rusty rusty = new Rusty();
    private final Wooden wooden = new Wooden();
    private final Piled piled = new Piled();
    // gains: what a PIER takes with so many spans more; bests: what it and all behind it take at most
    private final int[] gains = new int[Coast.MOST_PIERS * SHARES];
    private final int[] bests = new int[(Coast.MOST_PIERS + 1) * SHARES];
    private final int[] shares = new int[Coast.MOST_PIERS];
    private int latestFault = 0;
    private int latestFinding = 0;

    public PierYears() {
    }

    // ---- rows

    public int row(int row, int lane, int n) {
        if (!isRow(row) || !isWithin(lane, 0, 2) || n > Rows.MOST_ITEMS) {
            return BAD;
        }
        if (n < 0) {
            return found(SIZE);
        }
        rows.make(row, lane, n);
        return fine(n);
    }

    public int set(int row, int i, int v) {
        if (!isRow(row)) {
            return BAD;
        }
        if (rows.isMissing(row)) {
            return found(NULL);
        }
        if (!rows.holds(row, i, 1)) {
            return found(PLACE);
        }
        return fine(rows.put(row, i, v));
    }

    public int copy(int a, int i, int b, int j, int n) {
        if (!isRow(a) || !isRow(b)) {
            return BAD;
        }
        if (rows.isMissing(a) || rows.isMissing(b)) {
            return found(NULL);
        }
        if (!rows.areAlike(a, b)) {
            return found(STORE);
        }
        if (!rows.holds(a, i, n) || !rows.holds(b, j, n)) {
            return found(PLACE);
        }
        rows.move(a, i, b, j, n);
        return fine(n);
    }

    public int drop(int row) {
        if (!isRow(row)) {
            return BAD;
        }
        if (rows.isMissing(row)) {
            return found(NULL);
        }
        return fine(rows.remove(row));
    }

    // ---- coasts, acts

    public int feed(int letter) {
        if (!isWithin(letter, 0, 255)) {
            return BAD;
        }
        if (tape.isFull()) {
            return FULL;
        }
        return tape.add(letter);
    }

    public int coast() {
        // a text with a FAULT must leave the COAST as it is: it is read beside it
        boolean isSound = tape.readInto(foretold);
        if (!isSound) {
            latestFault = tape.faultNumber();
            return FAULTY - tape.faultPlace();
        }
        now.become(foretold);
        past.forgetAll();
        return now.piers;
    }

    public int fault() {
        return latestFault;
    }

    public int seasons(int n) {
        if (!now.stands) {
            return STATE;
        }
        if (!isWithin(n, 1, 24)) {
            return BAD;
        }
        if (now.season + n > MOST_SEASON) {
            return FULL;
        }
        for (int k = 0; k < n; k++) {
            past.keep(now);
            now.pass(now.storm());
        }
        return now.purse;
    }

    public int build(int pier) {
        if (!isPier(pier)) {
            return BAD;
        }
        if (now.iron == 0) {
            return STATE;
        }
        if (now.spans[pier] >= Coast.MOST_SPANS) {
            return FULL;
        }
        past.keep(now);
        now.buildSpan(pier);
        return now.spans[pier];
    }

    public int turn(int pier, int lean) {
        if (!isPier(pier) || !isWithin(lean, 0, 2)) {
            return BAD;
        }
        int before = now.leans[pier];
        if (before == lean) {
            return STATE;
        }
        past.keep(now);
        now.leans[pier] = lean;
        return before;
    }

    public int buy(int n) {
        if (!now.stands) {
            return STATE;
        }
        if (!isWithin(n, 1, 20)) {
            return BAD;
        }
        if (now.purse < n * PRICE) {
            return STATE;
        }
        if (now.iron + n > Coast.MOST_IRON) {
            return FULL;
        }
        past.keep(now);
        now.purse -= n * PRICE;
        now.iron += n;
        return now.iron;
    }

    public int undo() {
        if (past.size() == 0) {
            return STATE;
        }
        past.bringBack(now);
        return past.size();
    }

    public int pier(int pier, int what) {
        if (!isPier(pier)) {
            return BAD;
        }
        switch (what) {
            case 0:
                return now.froms[pier];
            case 1:
                return now.leans[pier];
            case 2:
                return now.spans[pier];
            case 3:
                return now.endOf(pier);
            case 4:
                return now.takeOf(pier);
            case 5:
                return now.lossOf(pier, now.storm());
            default:
                return BAD;
        }
    }

    // ---- foretold

    public int ahead(int pier, int d, int what) {
        if (!isPier(pier) || !isAhead(d) || !isWithin(what, 0, 1)) {
            return BAD;
        }
        foretell(d);
        return what == 0 ? foretold.spans[pier] : foretold.endOf(pier);
    }

    public int purse(int d) {
        if (!now.stands) {
            return STATE;
        }
        if (!isAhead(d)) {
            return BAD;
        }
        foretell(d);
        return foretold.purse;
    }

    public int gone(int pier) {
        if (!isPier(pier)) {
            return BAD;
        }
        foretold.become(now);
        for (int d = 0; d <= MOST_AHEAD; d++) {
            if (foretold.spans[pier] == 0) {
                return d;
            }
            foretold.pass(foretold.storm());
        }
        return NONE;
    }

    public int aim(int pier, int place, int out, int what) {
        boolean isTold = isPier(pier) && isPlace(place) && isWithin(out, 1, 20) && isWithin(what, 0, 1);
        if (!isTold) {
            return BAD;
        }
        int missing = out - now.spans[pier];
        if (missing < 0 || missing > now.iron) {
            return NONE;
        }
        for (int lean = 0; lean <= 2; lean++) {
            if (Coast.placeFrom(now.froms[pier], lean, out) == place) {
                return what == 0 ? lean : missing;
            }
        }
        return NONE;
    }

    public int take(int place, int out) {
        if (!now.stands) {
            return STATE;
        }
        if (!isPlace(place) || !isWithin(out, 0, 99)) {
            return BAD;
        }
        return now.takeAt(place, out);
    }

    public int give(int d, int k) {
        if (!now.stands) {
            return STATE;
        }
        if (!isAhead(d) || !isWithin(k, -2, 4)) {
            return BAD;
        }
        if (k >= now.piers) {
            return NONE;
        }
        int iron = Math.min(now.iron, MOST_GIVEN);
        weighGains(d, iron);
        weighBests(iron);
        int number = fewestOfBest(iron);
        int most = purseWith(bests[number]);
        if (k == -1) {
            return most;
        }
        if (k == -2) {
            return number;
        }
        shareOut(number, most);
        return shares[k];
    }

    public int turning(int d, int what) {
        if (!now.stands) {
            return STATE;
        }
        if (!isAhead(d) || !isWithin(what, 0, 2)) {
            return BAD;
        }
        int most = NONE;
        int which = NONE;
        int how = NONE;
        for (int pier = 0; pier < now.piers; pier++) {
            for (int lean = 0; lean <= 2; lean++) {
                int much = lean == now.leans[pier] ? NONE : purseTurned(pier, lean, d);
                if (much > most) {
                    most = much;
                    which = pier;
                    how = lean;
                }
            }
        }
        if (what == 0) {
            return which;
        }
        return what == 1 ? how : most;
    }

    public int cross(int what) {
        if (!now.stands) {
            return STATE;
        }
        if (!isWithin(what, 0, 2)) {
            return BAD;
        }
        int pairs = 0;
        int first = NONE;
        int far = NONE;
        for (int a = 0; a < now.piers; a++) {
            for (int b = a + 1; b < now.piers; b++) {
                int out = now.crossing(a, b);
                if (out > 0 && pairs == 0) {
                    first = 10 * a + b;
                    far = out;
                }
                if (out > 0) {
                    pairs++;
                }
            }
        }
        if (what == 0) {
            return pairs;
        }
        return what == 1 ? first : far;
    }

    public int fits(int pier, int row, int i, int n, int what) {
        if (!isPier(pier) || !isRow(row) || !isWithin(n, 1, 16) || !isWithin(what, 0, 3)) {
            return BAD;
        }
        if (rows.isMissing(row)) {
            return found(NULL);
        }
        if (!rows.holds(row, i, n)) {
            return found(PLACE);
        }
        int fitting = 0;
        for (int value = LEAST_FIT[what]; value <= MOST_FIT[what]; value++) {
            foretold.become(now);
            foretold.change(pier, what, value);
            if (isTaken(row, i, n)) {
                fitting |= 1 << value;
            }
        }
        return fine(fitting);
    }

    public int fire(int q, int c, int what) {
        if (!now.stands) {
            return STATE;
        }
        if (!isWithin(q, 0, 200) || !isWithin(c, 0, 10) || !isWithin(what, 0, 1)) {
            return BAD;
        }
        int above = 0;
        int below = 1;
        for (int pier = 0; pier < now.piers; pier++) {
            below *= 10;
        }
        for (int standing = 0; standing < 1 << now.piers; standing++) {
            if (takenBy(standing) >= q) {
                above += chanceOf(standing, c);
            }
        }
        int part = what == 0 ? above : below;
        int common = commonDivisor(above, below);
        return common == 0 ? part : part / common;
    }

    public int drawn(int n, int seed, int what) {
        if (!now.stands) {
            return STATE;
        }
        if (!isWithin(n, 0, 60) || !isWithin(seed, 1, 999999) || !isWithin(what, 0, 1)) {
            return BAD;
        }
        foretold.become(now);
        long x = seed;
        for (int k = 0; k < n; k++) {
            x = x * 16807 % 2147483647;
            if (x % 2 == 0) {
                buildDrawn(x);
            }
            foretold.pass((int) (x % 5));
        }
        return what == 0 ? foretold.purse : foretold.allSpans();
    }

    public int image(int k) {
        if (!isWithin(k, 0, 1)) {
            return BAD;
        }
        if (!now.stands) {
            return STATE;
        }
        imageOf(k).become(now);
        return 1;
    }

    public int restore(int k) {
        if (!isWithin(k, 0, 1)) {
            return BAD;
        }
        Coast kept = imageOf(k);
        if (!kept.stands) {
            return STATE;
        }
        now.become(kept);
        past.forgetAll();
        return 1;
    }

    // ---- asked

    public int kind(int pier) {
        return isPier(pier) ? now.kinds[pier] : BAD;
    }

    public int as(int pier, int kind) {
        if (!isPier(pier) || !isWithin(kind, 0, 5)) {
            return BAD;
        }
        if (!isOfKind(bodyOf(now.kinds[pier]), kind)) {
            return found(KIND);
        }
        return fine(pier);
    }

    public int ask(int pier, int what) {
        if (!isPier(pier) || !isWithin(what, 0, 1)) {
            return BAD;
        }
        asking.begin(pier, now.froms[pier], now.spans[pier]);
        Pier body = bodyOf(now.kinds[pier]);
        return what == 0 ? body.size(asking) : body.mark(asking);
    }

    public int trace(int i) {
        return asking.left(i);
    }

    public int count(int what) {
        switch (what) {
            case 0:
                return rows.present();
            case 1:
                return now.piers;
            case 2:
                return now.season;
            case 3:
                return now.storm();
            case 4:
                return now.purse;
            case 5:
                return now.iron;
            case 6:
                return past.size();
            case 7:
                return tape.length();
            case 8:
                return now.allSpans();
            default:
                return BAD;
        }
    }

    public int status() {
        return latestFinding;
    }

    // ---- what the calls share

    private static boolean isWithin(int number, int least, int most) {
        return number >= least && number <= most;
    }

    private static boolean isRow(int row) {
        return isWithin(row, 0, Rows.MOST_ROWS - 1);
    }

    private static boolean isPlace(int place) {
        return isWithin(place, 0, Coast.PLACES - 1);
    }

    private static boolean isAhead(int d) {
        return isWithin(d, 0, MOST_AHEAD);
    }

    private boolean isPier(int pier) {
        return isWithin(pier, 0, now.piers - 1);
    }

    private int found(int finding) {
        latestFinding = finding;
        return FOUND - finding;
    }

    private int fine(int answer) {
        latestFinding = 0;
        return answer;
    }

    private Coast imageOf(int k) {
        return k == 0 ? firstImage : secondImage;
    }

    private void foretell(int d) {
        foretold.become(now);
        foretold.passAll(d);
    }

    private int purseTurned(int pier, int lean, int d) {
        foretold.become(now);
        foretold.leans[pier] = lean;
        foretold.passAll(d);
        return foretold.purse;
    }

    private boolean isTaken(int row, int i, int n) {
        for (int k = 0; k < n; k++) {
            if (foretold.takeTogether() != rows.item(row, i + k)) {
                return false;
            }
            foretold.pass(foretold.storm());
        }
        return true;
    }

    // ---- giving: PURSE only grows in SEASONS, so PIERS can be weighed one by one and the limit put at the end

    private int purseWith(int gain) {
        return Math.min(Coast.MOST_PURSE, now.purse + gain);
    }

    private void weighGains(int d, int iron) {
        for (int pier = 0; pier < now.piers; pier++) {
            for (int more = 0; more <= iron; more++) {
                int spans = now.spans[pier] + more;
                boolean canBe = spans <= Coast.MOST_SPANS;
                gains[pier * SHARES + more] = canBe ? now.takenAhead(pier, spans, d) : NONE;
            }
        }
    }

    private void weighBests(int iron) {
        for (int number = 0; number <= iron; number++) {
            bests[now.piers * SHARES + number] = number == 0 ? 0 : NONE;
        }
        for (int pier = now.piers - 1; pier >= 0; pier--) {
            for (int number = 0; number <= iron; number++) {
                int best = NONE;
                for (int more = 0; more <= number; more++) {
                    best = Math.max(best, gainBehind(pier, more, number));
                }
                bests[pier * SHARES + number] = best;
            }
        }
    }

    /** What a PIER with so many spans more, and all behind it with the rest of a number, take at most; or NONE. */
    private int gainBehind(int pier, int more, int number) {
        int own = gains[pier * SHARES + more];
        int others = bests[(pier + 1) * SHARES + number - more];
        return own == NONE || others == NONE ? NONE : own + others;
    }

    private int fewestOfBest(int iron) {
        int fewest = 0;
        for (int number = 1; number <= iron; number++) {
            if (bests[number] != NONE && purseWith(bests[number]) > purseWith(bests[fewest])) {
                fewest = number;
            }
        }
        return fewest;
    }

    private void shareOut(int number, int most) {
        int left = number;
        int gained = 0;
        for (int pier = 0; pier < now.piers; pier++) {
            int share = firstShare(pier, left, gained, most);
            shares[pier] = share;
            gained += gains[pier * SHARES + share];
            left -= share;
        }
    }

    private int firstShare(int pier, int left, int gained, int most) {
        for (int more = 0; more < left; more++) {
            int gain = gainBehind(pier, more, left);
            if (gain != NONE && purseWith(gained + gain) == most) {
                return more;
            }
        }
        return left;
    }

    // ---- fire and draws

    private int takenBy(int standing) {
        int taken = 0;
        for (int pier = 0; pier < now.piers; pier++) {
            if ((standing >> pier & 1) == 1) {
                taken += now.takeOf(pier);
            }
        }
        return taken;
    }

    private int chanceOf(int standing, int c) {
        int chance = 1;
        for (int pier = 0; pier < now.piers; pier++) {
            chance *= (standing >> pier & 1) == 1 ? 10 - c : c;
        }
        return chance;
    }

    private static int commonDivisor(int a, int b) {
        int divisor = a;
        int rest = b;
        // far more steps than numbers up to 100000 can need
        for (int step = 0; step < 64 && rest != 0; step++) {
            int next = divisor % rest;
            divisor = rest;
            rest = next;
        }
        return divisor;
    }

    private void buildDrawn(long x) {
        if (foretold.piers == 0 || foretold.iron == 0) {
            return;
        }
        int pier = (int) (x % foretold.piers);
        if (foretold.spans[pier] < Coast.MOST_SPANS) {
            foretold.buildSpan(pier);
        }
    }

    // ---- kinds

    private Pier bodyOf(int kind) {
        switch (kind) {
            case 2:
                return cast;
            case 3:
                return rusty;
            case 4:
                return wooden;
            case 5:
                return piled;
            default:
                return irons;
        }
    }

    private static boolean isOfKind(Pier body, int kind) {
        switch (kind) {
            case 1:
                return body instanceof Irons;
            case 2:
                return body instanceof Cast;
            case 3:
                return body instanceof Rusty;
            case 4:
                return body instanceof Wooden;
            case 5:
                return body instanceof Piled;
            default:
                return body instanceof Pier;
        }
    }

    /** ROWS in one array, so that a ROW that is made anew costs no new array. */
    private static final class Rows {
        static final int MOST_ROWS = 8, MOST_ITEMS = 40;

        // LANES are kept as one more than their number, so that 0 is a ROW that is missing
        private final int[] lanes = new int[MOST_ROWS];
        private final int[] sizes = new int[MOST_ROWS];
        private final int[] items = new int[MOST_ROWS * MOST_ITEMS];

        boolean isMissing(int row) {
            return lanes[row] == 0;
        }

        boolean areAlike(int a, int b) {
            return lanes[a] == lanes[b];
        }

        boolean holds(int row, int i, int n) {
            return i >= 0 && n >= 0 && n <= sizes[row] && i <= sizes[row] - n;
        }

        void make(int row, int lane, int n) {
            lanes[row] = lane + 1;
            sizes[row] = n;
            for (int i = 0; i < MOST_ITEMS; i++) {
                items[row * MOST_ITEMS + i] = 0;
            }
        }

        int put(int row, int i, int v) {
            int kept = v;
            if (lanes[row] == 1) {
                kept = (byte) v;
            } else if (lanes[row] == 2) {
                kept = (short) v;
            }
            items[row * MOST_ITEMS + i] = kept;
            return kept;
        }

        int item(int row, int i) {
            return items[row * MOST_ITEMS + i];
        }

        void move(int a, int i, int b, int j, int n) {
            System.arraycopy(items, a * MOST_ITEMS + i, items, b * MOST_ITEMS + j, n);
        }

        int remove(int row) {
            lanes[row] = 0;
            return sizes[row];
        }

        int present() {
            int present = 0;
            for (int row = 0; row < MOST_ROWS; row++) {
                if (lanes[row] != 0) {
                    present++;
                }
            }
            return present;
        }
    }

    /** The tape, and how it is read: at stands on the first byte of a TOKEN, and stays there if it has a FAULT. */
    private static final class Tape {
        private static final int MOST_BYTES = 100, END = -1;
        private static final int CANNOT_STAND = 1, NOT_AS_TOLD = 2, NO_ROOM = 3;
        private static final int[] LEAST_OF_LAW = {0, 0, 1, 0, 0};
        private static final int[] MOST_OF_LAW = {9, 9, 30, 9, 9};
        private static final int[] LEAST_OF_PIER = {0, 0, 0};
        private static final int[] MOST_OF_PIER = {9, 2, 9};

        private final int[] bytes = new int[MOST_BYTES];
        private final int[] numbers = new int[5];
        private int length = 0;
        private int at = 0;
        private int fault = 0;

        boolean isFull() {
            return length >= MOST_BYTES;
        }

        int add(int letter) {
            if (length < MOST_BYTES) {
                bytes[length] = letter;
                length++;
            }
            return length;
        }

        int length() {
            return length;
        }

        int faultNumber() {
            return fault;
        }

        int faultPlace() {
            return at;
        }

        boolean readInto(Coast coast) {
            at = 0;
            fault = 0;
            boolean isSound = readLaw(coast) && readPiers(coast);
            length = 0;
            return isSound;
        }

        private boolean readLaw(Coast coast) {
            if (!readSign('l') || !readNumbers(LEAST_OF_LAW, MOST_OF_LAW)) {
                return false;
            }
            coast.begin(numbers[0], numbers[1], numbers[2], numbers[3], numbers[4]);
            return true;
        }

        private boolean readPiers(Coast coast) {
            for (int pier = 0; pier <= Coast.MOST_PIERS && at < length; pier++) {
                int kind = kindOfLetter(byteHere());
                if (kind == 0) {
                    return fail(CANNOT_STAND);
                }
                if (pier >= Coast.MOST_PIERS) {
                    return fail(NO_ROOM);
                }
                at++;
                if (!readNumbers(LEAST_OF_PIER, MOST_OF_PIER)) {
                    return false;
                }
                coast.addPier(kind, numbers[0], numbers[1], numbers[2]);
            }
            return true;
        }

        private boolean readNumbers(int[] least, int[] most) {
            int last = most.length - 1;
            for (int k = 0; k <= last; k++) {
                if (!readNumber(k, least[k], most[k]) || !readSign(k < last ? ',' : ';')) {
                    return false;
                }
            }
            return true;
        }

        private boolean readNumber(int k, int least, int most) {
            int figures = 0;
            int number = 0;
            for (int i = at; i < length && isFigure(bytes[i]); i++) {
                figures++;
                // a run of more than two is a FAULT whatever it comes to
                number = figures <= 2 ? number * 10 + bytes[i] - '0' : number;
            }
            if (figures == 0 || figures > 2) {
                return fail(CANNOT_STAND);
            }
            if (number < least || number > most) {
                return fail(NOT_AS_TOLD);
            }
            numbers[k] = number;
            at += figures;
            return true;
        }

        private boolean readSign(int sign) {
            if (byteHere() != sign) {
                return fail(CANNOT_STAND);
            }
            at++;
            return true;
        }

        private boolean fail(int number) {
            fault = number;
            return false;
        }

        private int byteHere() {
            return at < length ? bytes[at] : END;
        }

        private static boolean isFigure(int letter) {
            return letter >= '0' && letter <= '9';
        }

        private static int kindOfLetter(int letter) {
            switch (letter) {
                case 'i':
                    return 1;
                case 'c':
                    return 2;
                case 'r':
                    return 3;
                case 'w':
                    return 4;
                case 'p':
                    return 5;
                default:
                    return 0;
            }
        }
    }

    /** A COAST: the law, the PIERS, SEASON, PURSE and IRON. */
    private static final class Coast {
        static final int MOST_PIERS = 5, MOST_SPANS = 99, MOST_IRON = 99, MOST_PURSE = 9999, PLACES = 10;

        final int[] kinds = new int[MOST_PIERS];
        final int[] froms = new int[MOST_PIERS];
        final int[] leans = new int[MOST_PIERS];
        final int[] spans = new int[MOST_PIERS];
        boolean stands = false;
        int piers = 0;
        int season = 0;
        int purse = 0;
        int iron = 0;
        private int along = 0;
        private int out = 0;
        private int round = 1;
        private int gale = 0;

        void begin(int newAlong, int newOut, int newRound, int newGale, int newIron) {
            stands = true;
            piers = 0;
            season = 0;
            purse = 0;
            iron = newIron;
            along = newAlong;
            out = newOut;
            round = newRound;
            gale = newGale;
        }

        void addPier(int kind, int from, int lean, int length) {
            if (piers >= MOST_PIERS) {
                return;
            }
            kinds[piers] = kind;
            froms[piers] = from;
            leans[piers] = lean;
            spans[piers] = length;
            piers++;
        }

        void become(Coast other) {
            stands = other.stands;
            piers = other.piers;
            season = other.season;
            purse = other.purse;
            iron = other.iron;
            along = other.along;
            out = other.out;
            round = other.round;
            gale = other.gale;
            for (int pier = 0; pier < piers; pier++) {
                kinds[pier] = other.kinds[pier];
                froms[pier] = other.froms[pier];
                leans[pier] = other.leans[pier];
                spans[pier] = other.spans[pier];
            }
        }

        /** What is changed stands in the order in which fits() is asked. */
        void change(int pier, int what, int value) {
            switch (what) {
                case 0:
                    froms[pier] = value;
                    break;
                case 1:
                    leans[pier] = value;
                    break;
                case 2:
                    kinds[pier] = value;
                    break;
                default:
                    spans[pier] = value;
                    break;
            }
        }

        static int placeFrom(int from, int lean, int far) {
            // one place down is as good as nine up, so that nothing below 0 is divided
            return (from + (lean + PLACES - 1) * far) % PLACES;
        }

        int endOf(int pier) {
            return placeFrom(froms[pier], leans[pier], spans[pier]);
        }

        int takeAt(int place, int far) {
            if (far == 0 || round <= 0) {
                return 0;
            }
            return (place * along + far * out) % round;
        }

        int takeOf(int pier) {
            return takeAt(endOf(pier), spans[pier]);
        }

        int takeTogether() {
            int taken = 0;
            for (int pier = 0; pier < piers; pier++) {
                taken += takeOf(pier);
            }
            return taken;
        }

        int storm() {
            return stormOf(season);
        }

        private int stormOf(int when) {
            return (when + 1) * gale % 5;
        }

        private static int lossOfKind(int kind, int storm, int when) {
            switch (kind) {
                case 2:
                    return storm / 2;
                case 3:
                    return when % 2 == 0 ? storm + 1 : storm;
                case 4:
                    return storm > 0 ? 1 : 0;
                case 5:
                    return storm == 4 ? 1 : 0;
                default:
                    return storm;
            }
        }

        int lossOf(int pier, int storm) {
            return Math.min(spans[pier], lossOfKind(kinds[pier], storm, season));
        }

        void pass(int storm) {
            purse = Math.min(MOST_PURSE, purse + takeTogether());
            for (int pier = 0; pier < piers; pier++) {
                spans[pier] -= lossOf(pier, storm);
            }
            season++;
        }

        void passAll(int number) {
            for (int k = 0; k < number; k++) {
                pass(storm());
            }
        }

        /** What one PIER takes in so many SEASONS, if it has so many spans now. */
        int takenAhead(int pier, int length, int number) {
            int taken = 0;
            int left = length;
            for (int when = season; when < season + number && left > 0; when++) {
                taken += takeAt(placeFrom(froms[pier], leans[pier], left), left);
                left = Math.max(0, left - lossOfKind(kinds[pier], stormOf(when), when));
            }
            return taken;
        }

        void buildSpan(int pier) {
            spans[pier]++;
            iron--;
        }

        int allSpans() {
            int all = 0;
            for (int pier = 0; pier < piers; pier++) {
                all += spans[pier];
            }
            return all;
        }

        /** How far OUT two PIERS first cross; 0 if they do not. */
        int crossing(int a, int b) {
            int both = Math.min(spans[a], spans[b]);
            for (int far = 1; far <= both; far++) {
                if (placeFrom(froms[a], leans[a], far) == placeFrom(froms[b], leans[b], far)) {
                    return far;
                }
            }
            return 0;
        }
    }

    /** What was ahead of each ACT, in a ring, so that the oldest is forgotten where the newest is kept. */
    private static final class Past {
        private static final int MOST_ACTS = 24, SPANS_FROM = 3, LEANS_FROM = SPANS_FROM + Coast.MOST_PIERS;
        private static final int WIDTH = LEANS_FROM + Coast.MOST_PIERS;

        private final int[] kept = new int[MOST_ACTS * WIDTH];
        private int next = 0;
        private int size = 0;

        int size() {
            return size;
        }

        void forgetAll() {
            size = 0;
        }

        void keep(Coast coast) {
            int start = next * WIDTH;
            kept[start] = coast.season;
            kept[start + 1] = coast.purse;
            kept[start + 2] = coast.iron;
            for (int pier = 0; pier < coast.piers; pier++) {
                kept[start + SPANS_FROM + pier] = coast.spans[pier];
                kept[start + LEANS_FROM + pier] = coast.leans[pier];
            }
            next = (next + 1) % MOST_ACTS;
            size = Math.min(MOST_ACTS, size + 1);
        }

        void bringBack(Coast coast) {
            if (size == 0) {
                return;
            }
            next = (next + MOST_ACTS - 1) % MOST_ACTS;
            size--;
            int start = next * WIDTH;
            coast.season = kept[start];
            coast.purse = kept[start + 1];
            coast.iron = kept[start + 2];
            for (int pier = 0; pier < coast.piers; pier++) {
                coast.spans[pier] = kept[start + SPANS_FROM + pier];
                coast.leans[pier] = kept[start + LEANS_FROM + pier];
            }
        }
    }

    /** The PIER that is asked, and THE TRACE that the BODIES leave. */
    private static final class Asking {
        private static final int MOST_LEFT = 16;

        private final int[] numbers = new int[MOST_LEFT];
        private int length = 0;
        int number = 0;
        int from = 0;
        int spans = 0;

        void begin(int newNumber, int newFrom, int newSpans) {
            length = 0;
            number = newNumber;
            from = newFrom;
            spans = newSpans;
        }

        void leave(int body) {
            if (length < MOST_LEFT) {
                numbers[length] = body;
                length++;
            }
        }

        int left(int i) {
            return i >= 0 && i < length ? numbers[i] : NONE;
        }
    }

    /** A KIND: the BODIES of its asks; it holds nothing of one PIER, so that each KIND is made once. */
    private abstract static class Pier {
        int size(Asking asking) {
            asking.leave(10);
            return asking.from;
        }

        int mark(Asking asking) {
            asking.leave(20);
            return asking.number;
        }
    }

    private static class Irons extends Pier {
        int size(Asking asking) {
            asking.leave(11);
            int lent = super.size(asking);
            return lent + mark(asking);
        }

        int mark(Asking asking) {
            asking.leave(21);
            return super.mark(asking) + asking.spans;
        }
    }

    private static final class Cast extends Irons {
        int size(Asking asking) {
            asking.leave(12);
            return -super.size(asking);
        }

        int mark(Asking asking) {
            asking.leave(24);
            return super.mark(asking) * 2;
        }
    }

    private static final class Rusty extends Irons {
        int mark(Asking asking) {
            asking.leave(22);
            return super.mark(asking) - 1000;
        }
    }

    private static class Wooden extends Pier {
        int size(Asking asking) {
            asking.leave(13);
            return super.size(asking) - 100;
        }

        int mark(Asking asking) {
            asking.leave(23);
            int lent = super.mark(asking);
            return lent - size(asking);
        }
    }

    private static final class Piled extends Wooden {
        int size(Asking asking) {
            asking.leave(14);
            return super.size(asking) * 2;
        }
    }
}
