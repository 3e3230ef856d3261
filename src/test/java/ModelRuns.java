import java.util.ArrayList;
import java.util.Arrays;
import java.util.List;
import java.util.Random;

/**
 * Random runs of calls, each answer compared with that of a second telling of the document: slow, by trying all there
 * is, and written apart from the class that it judges.
 */
public final class ModelRuns {
    static final int NONE = -1000000, BAD = -1000001, STATE = -1000002, FULL = -1000003;
    private static int wrong = 0;
    private static long calls = 0;

    public static void main(String[] args) {
        for (int run = 0; run < 700; run++) {
            new Run(run).go();
        }
        System.out.println(calls + " calls, " + (wrong == 0 ? "all answers are as due" : wrong + " are not as due"));
        System.exit(wrong == 0 ? 0 : 1);
    }

    /** One object and one model, side by side. */
    private static final class Run {
        private final Random random;
        private final int number;
        private final PierYears object = new PierYears();
        private final Model model = new Model();
        private int made = 0;

        Run(int number) {
            this.number = number;
            this.random = new Random(90210L + number);
        }

        void go() {
            if (number % 8 == 6) {
                growRich();
            } else if (number % 8 != 7) {
                feedText(goodText());
                call("coast");
            }
            while (made < 500) {
                step();
            }
        }

        private void step() {
            int die = random.nextInt(100);
            if (die == 0) {
                feedText(random.nextBoolean() ? goodText() : badText());
                call("coast");
            } else if (die < 3) {
                fitTrueRow();
            } else if (die < 5) {
                askAndTrace();
            } else if (die < 30) {
                call("seasons build turn buy undo build buy".split(" ")[random.nextInt(7)]);
            } else {
                call(NAMES[random.nextInt(NAMES.length)]);
            }
        }

        /** Without storms, to the limits: PURSE 9999, IRON 99, a PIER of 99 spans, SEASON 999. */
        private void growRich() {
            feedText("l" + figure(10) + ",7,30," + (number % 3 == 0 ? 5 : 0) + ",9;i1,2,9;p3,0,9;w5,1,8;c7,2,9;");
            call("coast");
            int years = 2 + random.nextInt(41);
            for (int k = 0; k < years; k++) {
                due("seasons", 24);
            }
            int toBuild = 70 + random.nextInt(35);
            for (int k = 0; k < toBuild; k++) {
                if (k % 20 == 0) {
                    due("buy", 20);
                }
                due("build", 1);
            }
            for (int k = -2; k < 5; k++) {
                due("give", 1 + random.nextInt(30), k);
                due("give", 60, k);
            }
            due("drawn", 60, 1 + random.nextInt(999999), 1);
            due("cross", 2);
        }

        private void askAndTrace() {
            call("ask");
            for (int i = 0; i < 7; i++) {
                due("trace", i);
            }
        }

        /** What is taken indeed, with the object's own answers, so that fits() has something to fit. */
        private void fitTrueRow() {
            int n = 1 + random.nextInt(5);
            int row = random.nextInt(8);
            due("row", row, 2, n);
            Model later = model.twin();
            for (int k = 0; k < n && later.coast != null; k++) {
                due("set", row, k, later.coast.takings());
                later.coast.pass(later.coast.storm());
            }
            for (int what = 0; what < 4; what++) {
                due("fits", random.nextInt(5), row, 0, n, what);
            }
        }

        private String goodText() {
            StringBuilder text = new StringBuilder("l");
            text.append(figure(10)).append(',').append(figure(10)).append(',').append(1 + random.nextInt(30));
            text.append(',').append(figure(10)).append(',').append(figure(10)).append(';');
            int piers = random.nextInt(12) == 0 ? 0 : 1 + random.nextInt(5);
            for (int p = 0; p < piers; p++) {
                text.append("icrwp".charAt(random.nextInt(5))).append(figure(10)).append(',').append(figure(3));
                text.append(',').append(figure(10)).append(';');
            }
            return text.toString();
        }

        private String figure(int bound) {
            return (random.nextInt(10) == 0 ? "0" : "") + random.nextInt(bound);
        }

        private String badText() {
            StringBuilder text = new StringBuilder(goodText());
            if (random.nextInt(4) == 0) {
                text.append("i1,1,1;w2,2,2;p3,0,3;r4,1,4;c1,1,1;");
            }
            int changes = 1 + random.nextInt(2);
            for (int k = 0; k < changes && text.length() > 0; k++) {
                int at = random.nextInt(text.length());
                char sign = "0123456789,;lxicrwp A".charAt(random.nextInt(21));
                switch (random.nextInt(4)) {
                    case 0 -> text.deleteCharAt(at);
                    case 1 -> text.insert(at, sign);
                    case 2 -> text.setCharAt(at, sign);
                    default -> text.setLength(at);
                }
            }
            return text.toString();
        }

        private void feedText(String text) {
            if (made + text.length() > 500) {
                return;
            }
            for (char letter : text.toCharArray()) {
                due("feed", letter);
            }
        }

        private void call(String name) {
            int[] values = new int[arity(name)];
            for (int k = 0; k < values.length; k++) {
                values[k] = value(name, k);
            }
            due(name, values);
        }

        private int value(String name, int k) {
            int die = random.nextInt(60);
            if (die == 0) {
                int[] far = {Integer.MIN_VALUE, Integer.MAX_VALUE, -1, -3, 41, 61, 100, 201, 256, 1000000, 24, 25};
                return far[random.nextInt(far.length)];
            }
            int[] bounds = BOUNDS[index(name)];
            return bounds[2 * k] + random.nextInt(bounds[2 * k + 1] - bounds[2 * k] + 1);
        }

        private void due(String name, int... values) {
            int got = Calls.ofObject(object, name, values);
            int want = Calls.ofModel(model, name, values);
            made++;
            calls++;
            if (got != want && wrong++ < 40) {
                System.out.println("run " + number + ", call " + made + ": " + name + Arrays.toString(values)
                        + " answered " + got + ", due is " + want);
            }
        }
    }

    static final String[] NAMES = ("row set copy drop feed coast fault seasons build turn buy undo pier ahead purse gone "
            + "aim take give turning cross fits fire drawn image restore kind as ask trace count status").split(" ");

    /** From where to where each number is drawn, most often: a little beyond what is told. */
    private static final int[][] BOUNDS = {
        {0, 7, 0, 2, -1, 41}, {0, 7, -1, 20, -70000, 70000}, {0, 7, -1, 9, 0, 7, -1, 9, -1, 9}, {0, 8}, {0, 255}, {}, {},
        {0, 12}, {0, 4}, {0, 4, 0, 3}, {0, 21}, {}, {0, 5, 0, 6}, {0, 5, 0, 61, 0, 2}, {0, 61}, {0, 5},
        {0, 4, -1, 10, 0, 21, 0, 1}, {-1, 10, 0, 100}, {0, 20, -3, 5}, {0, 61, 0, 3}, {0, 3},
        {0, 4, 0, 7, 0, 3, 0, 4, 0, 4}, {0, 70, 0, 10, 0, 2}, {0, 61, 0, 999999, 0, 2}, {0, 2}, {0, 2}, {0, 5},
        {0, 4, -1, 6}, {0, 4, 0, 1}, {-1, 16}, {-1, 9}, {}};

    private static int index(String name) {
        return Arrays.asList(NAMES).indexOf(name);
    }

    private static int arity(String name) {
        return BOUNDS[index(name)].length / 2;
    }

    private static final class Calls {
        static int ofObject(PierYears x, String name, int[] v) {
            return switch (name) {
                case "row" -> x.row(v[0], v[1], v[2]);
                case "set" -> x.set(v[0], v[1], v[2]);
                case "copy" -> x.copy(v[0], v[1], v[2], v[3], v[4]);
                case "drop" -> x.drop(v[0]);
                case "feed" -> x.feed(v[0]);
                case "coast" -> x.coast();
                case "fault" -> x.fault();
                case "seasons" -> x.seasons(v[0]);
                case "build" -> x.build(v[0]);
                case "turn" -> x.turn(v[0], v[1]);
                case "buy" -> x.buy(v[0]);
                case "undo" -> x.undo();
                case "pier" -> x.pier(v[0], v[1]);
                case "ahead" -> x.ahead(v[0], v[1], v[2]);
                case "purse" -> x.purse(v[0]);
                case "gone" -> x.gone(v[0]);
                case "aim" -> x.aim(v[0], v[1], v[2], v[3]);
                case "take" -> x.take(v[0], v[1]);
                case "give" -> x.give(v[0], v[1]);
                case "turning" -> x.turning(v[0], v[1]);
                case "cross" -> x.cross(v[0]);
                case "fits" -> x.fits(v[0], v[1], v[2], v[3], v[4]);
                case "fire" -> x.fire(v[0], v[1], v[2]);
                case "drawn" -> x.drawn(v[0], v[1], v[2]);
                case "image" -> x.image(v[0]);
                case "restore" -> x.restore(v[0]);
                case "kind" -> x.kind(v[0]);
                case "as" -> x.as(v[0], v[1]);
                case "ask" -> x.ask(v[0], v[1]);
                case "trace" -> x.trace(v[0]);
                case "count" -> x.count(v[0]);
                case "status" -> x.status();
                default -> throw new IllegalStateException(name);
            };
        }

        static int ofModel(Model m, String name, int[] v) {
            return switch (name) {
                case "row" -> m.row(v[0], v[1], v[2]);
                case "set" -> m.set(v[0], v[1], v[2]);
                case "copy" -> m.copy(v[0], v[1], v[2], v[3], v[4]);
                case "drop" -> m.drop(v[0]);
                case "feed" -> m.feed(v[0]);
                case "coast" -> m.readCoast();
                case "fault" -> m.fault;
                case "seasons" -> m.seasons(v[0]);
                case "build" -> m.build(v[0]);
                case "turn" -> m.turn(v[0], v[1]);
                case "buy" -> m.buy(v[0]);
                case "undo" -> m.undo();
                case "pier" -> m.pier(v[0], v[1]);
                case "ahead" -> m.ahead(v[0], v[1], v[2]);
                case "purse" -> m.purse(v[0]);
                case "gone" -> m.gone(v[0]);
                case "aim" -> m.aim(v[0], v[1], v[2], v[3]);
                case "take" -> m.take(v[0], v[1]);
                case "give" -> m.give(v[0], v[1]);
                case "turning" -> m.turning(v[0], v[1]);
                case "cross" -> m.cross(v[0]);
                case "fits" -> m.fits(v[0], v[1], v[2], v[3], v[4]);
                case "fire" -> m.fire(v[0], v[1], v[2]);
                case "drawn" -> m.drawn(v[0], v[1], v[2]);
                case "image" -> m.image(v[0]);
                case "restore" -> m.restore(v[0]);
                case "kind" -> m.kind(v[0]);
                case "as" -> m.as(v[0], v[1]);
                case "ask" -> m.ask(v[0], v[1]);
                case "trace" -> v[0] >= 0 && v[0] < m.trace.size() ? m.trace.get(v[0]) : NONE;
                case "count" -> m.count(v[0]);
                case "status" -> m.status;
                default -> throw new IllegalStateException(name);
            };
        }
    }

    private record Token(char sort, int value, int place) { }

    private static final class FaultyText extends Exception {
        private static final long serialVersionUID = 1L;
        final int number;
        final int place;

        FaultyText(int number, int place) {
            this.number = number;
            this.place = place;
        }
    }

    private static final class Span {
        char sort;
        int from;
        int lean;
        int spans;

        Span(char sort, int from, int lean, int spans) {
            this.sort = sort;
            this.from = from;
            this.lean = lean;
            this.spans = spans;
        }

        int placeAt(int out) {
            int place = from;
            for (int k = 0; k < out; k++) {
                place = lean == 0 ? (place == 0 ? 9 : place - 1) : lean == 2 ? (place == 9 ? 0 : place + 1) : place;
            }
            return place;
        }

        int loss(int storm, int season) {
            int loss = 0;
            if (sort == 'i' || sort == 'r') {
                loss = storm;
            }
            if (sort == 'r' && season % 2 == 0) {
                loss++;
            }
            if (sort == 'c') {
                loss = new int[] {0, 0, 1, 1, 2}[storm];
            }
            if (sort == 'w' && storm != 0 || sort == 'p' && storm == 4) {
                loss = 1;
            }
            return Math.min(loss, spans);
        }

        int kind() {
            return " icrwp".indexOf(sort);
        }
    }

    private static final class Shore {
        int[] law = new int[4];
        int iron;
        int season;
        int purse;
        List<Span> piers = new ArrayList<>();

        Shore twin() {
            Shore twin = new Shore();
            twin.law = law.clone();
            twin.iron = iron;
            twin.season = season;
            twin.purse = purse;
            for (Span p : piers) {
                twin.piers.add(new Span(p.sort, p.from, p.lean, p.spans));
            }
            return twin;
        }

        int storm() {
            return (season + 1) * law[3] % 5;
        }

        int taking(int place, int out) {
            return out == 0 ? 0 : (place * law[0] + out * law[1]) % law[2];
        }

        int takings() {
            int all = 0;
            for (Span p : piers) {
                all += taking(p.placeAt(p.spans), p.spans);
            }
            return all;
        }

        void pass(int storm) {
            purse += takings();
            if (purse > 9999) {
                purse = 9999;
            }
            for (Span p : piers) {
                p.spans -= p.loss(storm, season);
            }
            season++;
        }

        Shore after(int d) {
            Shore later = twin();
            for (int k = 0; k < d; k++) {
                later.pass(later.storm());
            }
            return later;
        }

        int allSpans() {
            return piers.stream().mapToInt(p -> p.spans).sum();
        }
    }

    private static final class Model {
        Shore coast = null;
        int fault = 0;
        int status = 0;
        List<Integer> trace = new ArrayList<>();
        private final int[][] rows = new int[8][];
        private final int[] lanes = new int[8];
        private final List<Integer> tape = new ArrayList<>();
        private final List<Shore> past = new ArrayList<>();
        private final Shore[] images = new Shore[2];

        Model twin() {
            Model twin = new Model();
            twin.coast = coast == null ? null : coast.twin();
            return twin;
        }

        private int find(int finding) {
            status = finding;
            return -1000010 - finding;
        }

        private int ok(int answer) {
            status = 0;
            return answer;
        }

        private boolean noRow(int row) {
            return row < 0 || row > 7;
        }

        private boolean noPier(int pier) {
            return coast == null || pier < 0 || pier >= coast.piers.size();
        }

        private boolean lacks(int row, int i, int n) {
            return i < 0 || n < 0 || (long) i + n > rows[row].length;
        }

        int row(int row, int lane, int n) {
            if (noRow(row) || lane < 0 || lane > 2 || n > 40) {
                return BAD;
            }
            if (n < 0) {
                return find(4);
            }
            rows[row] = new int[n];
            lanes[row] = lane;
            return ok(n);
        }

        int set(int row, int i, int v) {
            if (noRow(row)) {
                return BAD;
            }
            if (rows[row] == null) {
                return find(1);
            }
            if (lacks(row, i, 1)) {
                return find(2);
            }
            int free = new int[] {24, 16, 0}[lanes[row]];
            rows[row][i] = v << free >> free;
            return ok(rows[row][i]);
        }

        int copy(int a, int i, int b, int j, int n) {
            if (noRow(a) || noRow(b)) {
                return BAD;
            }
            if (rows[a] == null || rows[b] == null) {
                return find(1);
            }
            if (lanes[a] != lanes[b]) {
                return find(5);
            }
            if (lacks(a, i, n) || lacks(b, j, n)) {
                return find(2);
            }
            int[] ahead = rows[a].clone();
            for (int k = 0; k < n; k++) {
                rows[b][j + k] = ahead[i + k];
            }
            return ok(n);
        }

        int drop(int row) {
            if (noRow(row)) {
                return BAD;
            }
            if (rows[row] == null) {
                return find(1);
            }
            int n = rows[row].length;
            rows[row] = null;
            return ok(n);
        }

        int feed(int letter) {
            if (letter < 0 || letter > 255) {
                return BAD;
            }
            if (tape.size() == 100) {
                return FULL;
            }
            tape.add(letter);
            return tape.size();
        }

        int readCoast() {
            List<Integer> text = new ArrayList<>(tape);
            tape.clear();
            try {
                coast = parse(tokens(text));
                past.clear();
                return coast.piers.size();
            } catch (FaultyText f) {
                fault = f.number;
                return -1000100 - f.place;
            }
        }

        /** TOKENS: # a NUMBER, ? none, $ the end, else the sign itself. */
        private List<Token> tokens(List<Integer> text) {
            List<Token> tokens = new ArrayList<>();
            int at = 0;
            while (at < text.size()) {
                int end = at;
                int value = 0;
                while (end < text.size() && text.get(end) >= 48 && text.get(end) <= 57) {
                    value = Math.min(999, value * 10 + text.get(end) - 48);
                    end++;
                }
                int letter = text.get(at);
                if (end > at) {
                    tokens.add(new Token(end - at > 2 ? '?' : '#', value, at));
                    at = end;
                } else {
                    boolean isToken = letter >= 97 && letter <= 122 || letter == 44 || letter == 59;
                    tokens.add(new Token(isToken ? (char) letter : '?', 0, at));
                    at++;
                }
            }
            tokens.add(new Token('$', 0, text.size()));
            return tokens;
        }

        private Shore parse(List<Token> tokens) throws FaultyText {
            Shore read = new Shore();
            String form = "l#,#,#,#,#;";
            int[][] ranges = {{0, 9}, {0, 9}, {1, 30}, {0, 9}, {0, 9}};
            int[] values = match(tokens, 0, form, ranges);
            System.arraycopy(values, 0, read.law, 0, 4);
            read.iron = values[4];
            int at = form.length();
            while (tokens.get(at).sort != '$') {
                Token letter = tokens.get(at);
                if ("icrwp".indexOf(letter.sort) < 0) {
                    throw new FaultyText(1, letter.place);
                }
                if (read.piers.size() == 5) {
                    throw new FaultyText(3, letter.place);
                }
                int[] told = match(tokens, at + 1, "#,#,#;", new int[][] {{0, 9}, {0, 2}, {0, 9}});
                read.piers.add(new Span(letter.sort, told[0], told[1], told[2]));
                at += 7;
            }
            return read;
        }

        private int[] match(List<Token> tokens, int from, String form, int[][] ranges) throws FaultyText {
            int[] values = new int[ranges.length];
            int numbers = 0;
            for (int k = 0; k < form.length(); k++) {
                Token token = tokens.get(from + k);
                if (token.sort != form.charAt(k)) {
                    throw new FaultyText(1, token.place);
                }
                if (token.sort == '#') {
                    if (token.value < ranges[numbers][0] || token.value > ranges[numbers][1]) {
                        throw new FaultyText(2, token.place);
                    }
                    values[numbers++] = token.value;
                }
            }
            return values;
        }

        private void act() {
            past.add(coast.twin());
            if (past.size() > 24) {
                past.remove(0);
            }
        }

        int seasons(int n) {
            if (coast == null) {
                return STATE;
            }
            if (n < 1 || n > 24) {
                return BAD;
            }
            if (coast.season + n >= 1000) {
                return FULL;
            }
            for (int k = 0; k < n; k++) {
                act();
                coast.pass(coast.storm());
            }
            return coast.purse;
        }

        int build(int pier) {
            if (noPier(pier)) {
                return BAD;
            }
            if (coast.iron < 1) {
                return STATE;
            }
            if (coast.piers.get(pier).spans == 99) {
                return FULL;
            }
            act();
            coast.iron--;
            return ++coast.piers.get(pier).spans;
        }

        int turn(int pier, int lean) {
            if (noPier(pier) || lean < 0 || lean > 2) {
                return BAD;
            }
            int was = coast.piers.get(pier).lean;
            if (was == lean) {
                return STATE;
            }
            act();
            coast.piers.get(pier).lean = lean;
            return was;
        }

        int buy(int n) {
            if (coast == null) {
                return STATE;
            }
            if (n < 1 || n > 20) {
                return BAD;
            }
            if (coast.purse < 5 * n) {
                return STATE;
            }
            if (coast.iron + n > 99) {
                return FULL;
            }
            act();
            coast.purse -= 5 * n;
            coast.iron += n;
            return coast.iron;
        }

        int undo() {
            if (past.isEmpty()) {
                return STATE;
            }
            coast = past.remove(past.size() - 1);
            return past.size();
        }

        int pier(int pier, int what) {
            if (noPier(pier) || what < 0 || what > 5) {
                return BAD;
            }
            Span p = coast.piers.get(pier);
            int end = p.placeAt(p.spans);
            return new int[] {p.from, p.lean, p.spans, end, coast.taking(end, p.spans),
                p.loss(coast.storm(), coast.season)}[what];
        }

        private boolean notAhead(int d) {
            return d < 0 || d > 60;
        }

        int ahead(int pier, int d, int what) {
            if (noPier(pier) || notAhead(d) || what < 0 || what > 1) {
                return BAD;
            }
            Span p = coast.after(d).piers.get(pier);
            return what == 0 ? p.spans : p.placeAt(p.spans);
        }

        int purse(int d) {
            return coast == null ? STATE : notAhead(d) ? BAD : coast.after(d).purse;
        }

        int gone(int pier) {
            if (noPier(pier)) {
                return BAD;
            }
            for (int d = 0; d <= 60; d++) {
                if (coast.after(d).piers.get(pier).spans == 0) {
                    return d;
                }
            }
            return NONE;
        }

        int aim(int pier, int place, int out, int what) {
            if (noPier(pier) || place < 0 || place > 9 || out < 1 || out > 20 || what < 0 || what > 1) {
                return BAD;
            }
            Span p = coast.piers.get(pier);
            for (int lean = 0; lean < 3; lean++) {
                Span turned = new Span(p.sort, p.from, lean, out);
                if (turned.placeAt(out) == place && p.spans <= out && out - p.spans <= coast.iron) {
                    return what == 0 ? lean : out - p.spans;
                }
            }
            return NONE;
        }

        int take(int place, int out) {
            if (coast == null) {
                return STATE;
            }
            return place < 0 || place > 9 || out < 0 || out > 99 ? BAD : coast.taking(place, out);
        }

        private int[] given;
        private int givenPurse;
        private int givenNumber;

        int give(int d, int k) {
            if (coast == null) {
                return STATE;
            }
            if (notAhead(d) || k < -2 || k > 4) {
                return BAD;
            }
            if (k >= coast.piers.size()) {
                return NONE;
            }
            givenPurse = -1;
            tryGifts(d, new int[coast.piers.size()], 0, Math.min(9, coast.iron));
            return k == -1 ? givenPurse : k == -2 ? givenNumber : given[k];
        }

        private void tryGifts(int d, int[] gifts, int pier, int left) {
            if (pier == gifts.length) {
                weigh(d, gifts);
                return;
            }
            for (int g = 0; g <= left && coast.piers.get(pier).spans + g <= 99; g++) {
                gifts[pier] = g;
                tryGifts(d, gifts, pier + 1, left - g);
            }
            gifts[pier] = 0;
        }

        private void weigh(int d, int[] gifts) {
            Shore built = coast.twin();
            for (int p = 0; p < gifts.length; p++) {
                built.piers.get(p).spans += gifts[p];
            }
            int number = Arrays.stream(gifts).sum();
            int purse = built.after(d).purse;
            if (purse > givenPurse || purse == givenPurse && number < givenNumber) {
                givenPurse = purse;
                givenNumber = number;
                given = gifts.clone();
            }
        }

        int turning(int d, int what) {
            if (coast == null) {
                return STATE;
            }
            if (notAhead(d) || what < 0 || what > 2) {
                return BAD;
            }
            int[] best = {NONE, NONE, NONE};
            for (int p = 0; p < coast.piers.size(); p++) {
                for (int lean = 0; lean < 3; lean++) {
                    Shore turned = coast.twin();
                    if (turned.piers.get(p).lean == lean) {
                        continue;
                    }
                    turned.piers.get(p).lean = lean;
                    int purse = turned.after(d).purse;
                    best = purse > best[2] ? new int[] {p, lean, purse} : best;
                }
            }
            return best[what];
        }

        int cross(int what) {
            if (coast == null) {
                return STATE;
            }
            if (what < 0 || what > 2) {
                return BAD;
            }
            List<int[]> pairs = new ArrayList<>();
            for (int a = 0; a < coast.piers.size(); a++) {
                for (int b = a + 1; b < coast.piers.size(); b++) {
                    for (int out = 1; out < 100; out++) {
                        Span one = coast.piers.get(a);
                        Span other = coast.piers.get(b);
                        if (out <= one.spans && out <= other.spans && one.placeAt(out) == other.placeAt(out)) {
                            pairs.add(new int[] {10 * a + b, out});
                            break;
                        }
                    }
                }
            }
            return what == 0 ? pairs.size() : pairs.isEmpty() ? NONE : pairs.get(0)[what - 1];
        }

        int fits(int pier, int row, int i, int n, int what) {
            if (noPier(pier) || noRow(row) || n < 1 || n > 16 || what < 0 || what > 3) {
                return BAD;
            }
            if (rows[row] == null) {
                return find(1);
            }
            if (lacks(row, i, n)) {
                return find(2);
            }
            int bits = 0;
            for (int v = 0; v < 30; v++) {
                if (v > new int[] {9, 2, 5, 29}[what] || v == 0 && what == 2) {
                    continue;
                }
                Shore other = coast.twin();
                Span p = other.piers.get(pier);
                p.from = what == 0 ? v : p.from;
                p.lean = what == 1 ? v : p.lean;
                p.sort = what == 2 ? " icrwp".charAt(v) : p.sort;
                p.spans = what == 3 ? v : p.spans;
                boolean isSo = true;
                for (int k = 0; k < n; k++) {
                    isSo &= other.after(k).takings() == rows[row][i + k];
                }
                bits += isSo ? 1 << v : 0;
            }
            return ok(bits);
        }

        int fire(int q, int c, int what) {
            if (coast == null) {
                return STATE;
            }
            if (q < 0 || q > 200 || c < 0 || c > 10 || what < 0 || what > 1) {
                return BAD;
            }
            // how many of 10 to the number of PIERS come to each sum
            int[] ways = new int[400];
            ways[0] = 1;
            int below = 1;
            for (Span p : coast.piers) {
                int taken = coast.taking(p.placeAt(p.spans), p.spans);
                int[] next = new int[400];
                for (int s = 0; s < 200; s++) {
                    next[s] += ways[s] * c;
                    next[s + taken] += ways[s] * (10 - c);
                }
                ways = next;
                below *= 10;
            }
            int above = 0;
            for (int s = q; s < 400; s++) {
                above += ways[s];
            }
            if (above == 0) {
                return what;
            }
            for (int prime : new int[] {2, 5}) {
                while (above % prime == 0 && below % prime == 0) {
                    above /= prime;
                    below /= prime;
                }
            }
            return what == 0 ? above : below;
        }

        int drawn(int n, int seed, int what) {
            if (coast == null) {
                return STATE;
            }
            if (n < 0 || n > 60 || seed < 1 || seed > 999999 || what < 0 || what > 1) {
                return BAD;
            }
            Shore later = coast.twin();
            long x = seed;
            for (int k = 0; k < n; k++) {
                x = x * 16807L % 2147483647L;
                if (x % 2 == 0 && later.iron > 0 && !later.piers.isEmpty()) {
                    Span p = later.piers.get((int) (x % later.piers.size()));
                    if (p.spans != 99) {
                        p.spans++;
                        later.iron--;
                    }
                }
                later.pass((int) (x % 5));
            }
            return what == 0 ? later.purse : later.allSpans();
        }

        int image(int k) {
            if (k < 0 || k > 1) {
                return BAD;
            }
            if (coast == null) {
                return STATE;
            }
            images[k] = coast.twin();
            return 1;
        }

        int restore(int k) {
            if (k < 0 || k > 1) {
                return BAD;
            }
            if (images[k] == null) {
                return STATE;
            }
            coast = images[k].twin();
            past.clear();
            return 1;
        }

        int kind(int pier) {
            return noPier(pier) ? BAD : coast.piers.get(pier).kind();
        }

        int as(int pier, int kind) {
            if (noPier(pier) || kind < 0 || kind > 5) {
                return BAD;
            }
            String[] kinds = {"", "01", "012", "013", "04", "045"};
            boolean isOne = kinds[kind(pier)].indexOf('0' + kind) >= 0;
            return isOne ? ok(pier) : find(3);
        }

        int ask(int pier, int what) {
            if (noPier(pier) || what < 0 || what > 1) {
                return BAD;
            }
            Span p = coast.piers.get(pier);
            int mark = pier;
            int size = p.from;
            String sizes = "";
            String marks = "";
            switch (p.sort) {
                case 'i' -> {
                    mark = pier + p.spans;
                    size = p.from + mark;
                    marks = "21 20";
                    sizes = "11 10 " + marks;
                }
                case 'c' -> {
                    mark = 2 * (pier + p.spans);
                    size = -(p.from + mark);
                    marks = "24 21 20";
                    sizes = "12 11 10 " + marks;
                }
                case 'r' -> {
                    mark = pier + p.spans - 1000;
                    size = p.from + mark;
                    marks = "22 21 20";
                    sizes = "11 10 " + marks;
                }
                case 'w' -> {
                    size = p.from - 100;
                    mark = pier - size;
                    sizes = "13 10";
                    marks = "23 20 " + sizes;
                }
                default -> {
                    size = 2 * (p.from - 100);
                    mark = pier - size;
                    sizes = "14 13 10";
                    marks = "23 20 " + sizes;
                }
            }
            trace = new ArrayList<>();
            for (String body : (what == 0 ? sizes : marks).split(" ")) {
                trace.add(Integer.valueOf(body));
            }
            return what == 0 ? size : mark;
        }

        int count(int what) {
            boolean none = coast == null;
            return switch (what) {
                case 0 -> (int) Arrays.stream(rows).filter(r -> r != null).count();
                case 1 -> none ? 0 : coast.piers.size();
                case 2 -> none ? 0 : coast.season;
                case 3 -> none ? 0 : coast.storm();
                case 4 -> none ? 0 : coast.purse;
                case 5 -> none ? 0 : coast.iron;
                case 6 -> past.size();
                case 7 -> tape.size();
                case 8 -> none ? 0 : coast.allSpans();
                default -> BAD;
            };
        }
    }
}
