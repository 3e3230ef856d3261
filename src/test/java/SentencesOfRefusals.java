import java.lang.reflect.InvocationTargetException;
import java.lang.reflect.Method;
import java.util.Arrays;
import java.util.List;
import java.util.Set;
import java.util.TreeSet;
import java.util.function.Supplier;

/**
 * "Refusals are answers": each call, by numbers that are as told and by numbers that are not, on objects in which there
 * is nothing, something, and as much as there may be, answers every refusal that its promise tells, and no other.
 */
public final class SentencesOfRefusals {
    private static final String SENTENCE = "Refusals are answers, the first of these that fits, but as told: "
            + "BAD (a number is not as told; there is no such thing), STATE (as told), FULL (as told), then FINDINGS";
    private static final int[] NUMBERS = {Edge.LEAST, -1, 0, 1, 2, 41, Edge.MOST};
    private static final int[] FEWER_NUMBERS = {Edge.LEAST, 0, 1, 3, Edge.MOST};
    private static final int ON_ONE_OBJECT = 150;

    public static void main(String[] args) {
        Edge.run(SentencesOfRefusals.class);
    }

    // ---- objects

    private static Told withRows() {
        Told x = Edge.with(Edge.FIVE);
        x.row(0, 0, 3);
        x.row(1, 1, 3);
        x.row(2, 1, 2);
        x.image(0);
        x.seasons(2);
        return x;
    }

    private static Told withoutIron() {
        return Edge.with("l1,1,9,2,0;r1,0,1;w1,1,2;");
    }

    private static List<Supplier<Told>> objects() {
        return List.of(Told::new, SentencesOfRefusals::withRows, SentencesOfRefusals::withoutIron,
                () -> Edge.with(Edge.BARE), () -> Edge.with(Edge.CALM), () -> Edge.withTape(100), () -> Edge.withIron(99),
                () -> Edge.withLongPier(99, 1), () -> Edge.inSeason(999, Edge.RICH));
    }

    // ---- sweeps

    private static void refuses(String call, int... told) {
        Edge.says(SENTENCE);
        Set<Integer> due = new TreeSet<>();
        for (int refusal : told) {
            due.add(refusal);
        }
        Set<Integer> heard = new TreeSet<>();
        Method method = methodOf(call);
        for (Supplier<Told> made : objects()) {
            sweep(made, method, due, heard);
        }
        Edge.check(heard.equals(due), call + " refuses by " + heard + ", due is " + due);
    }

    private static Method methodOf(String call) {
        for (Method method : Told.class.getDeclaredMethods()) {
            if (method.getName().equals(call)) {
                return method;
            }
        }
        Edge.check(false, "there is no call " + call);
        return null;
    }

    /** Each call is made on an object on which nothing was done but what is refused. */
    private static void sweep(Supplier<Told> made, Method method, Set<Integer> due, Set<Integer> heard) {
        int width = method.getParameterCount();
        int[] numbers = width < 4 ? NUMBERS : FEWER_NUMBERS;
        int[] chosen = new int[width];
        Told x = made.get();
        int calls = 0;
        do {
            Integer[] given = new Integer[width];
            for (int k = 0; k < width; k++) {
                given[k] = numbers[chosen[k]];
            }
            int answer = answerOf(x, method, given);
            boolean isRefusal = answer <= Edge.NONE;
            if (isRefusal) {
                Edge.check(due.contains(answer), x.latest() + " answered " + answer + ", which its promise does not tell");
                heard.add(answer);
            }
            calls++;
            if (!isRefusal || calls == ON_ONE_OBJECT) {
                x = made.get();
                calls = 0;
            }
        } while (next(chosen, numbers.length));
    }

    private static boolean next(int[] chosen, int many) {
        for (int k = 0; k < chosen.length; k++) {
            chosen[k]++;
            if (chosen[k] < many) {
                return true;
            }
            chosen[k] = 0;
        }
        return false;
    }

    private static int answerOf(Told x, Method method, Integer[] given) {
        try {
            return (int) method.invoke(x, (Object[]) given);
        } catch (InvocationTargetException | IllegalAccessException e) {
            Edge.check(false, method.getName() + Arrays.toString(given) + " threw " + e.getCause());
            return 0;
        }
    }

    // ---- by promises

    static void promise02_itsRefusals() {
        Edge.says("BAD: ROW, LANE, n above 40; SIZE.");
        refuses("row", Edge.BAD, Edge.SIZE);
    }

    static void promise03_itsRefusals() {
        Edge.says("BAD: ROW; NULL; PLACE.");
        refuses("set", Edge.BAD, Edge.NULL, Edge.PLACE);
    }

    static void promise04_itsRefusals() {
        Edge.says("BAD: ROWS; NULL; STORE; PLACE (i, j, n below 0, or beyond an end).");
        refuses("copy", Edge.BAD, Edge.NULL, Edge.STORE, Edge.PLACE);
    }

    static void promise05_itsRefusals() {
        Edge.says("BAD; NULL.");
        refuses("drop", Edge.BAD, Edge.NULL);
    }

    static void promise06_itsRefusals() {
        Edge.says("BAD; FULL.");
        refuses("feed", Edge.BAD, Edge.FULL);
    }

    static void promise07_itsRefusals() {
        Edge.says("-1000100 less the place of a FAULT: all stays.");
        refuses("coast", Edge.FAULTY);
    }

    static void promise08_itHasNone() {
        Edge.says("The number of the latest FAULT; 0 before one.");
        refuses("fault");
    }

    static void promise09_itsRefusals() {
        Edge.says("BAD; STATE: no COAST (ahead of BAD); FULL: beyond SEASON 999.");
        refuses("seasons", Edge.BAD, Edge.STATE, Edge.FULL);
    }

    static void promise10_itsRefusals() {
        Edge.says("BAD; STATE: no IRON; FULL: it has 99.");
        refuses("build", Edge.BAD, Edge.STATE, Edge.FULL);
    }

    static void promise11_itsRefusals() {
        Edge.says("BAD; STATE: it does so.");
        refuses("turn", Edge.BAD, Edge.STATE);
    }

    static void promise12_itsRefusals() {
        Edge.says("BAD; STATE: no COAST (ahead of BAD), PURSE is not enough; FULL: there would be more than 99.");
        refuses("buy", Edge.BAD, Edge.STATE, Edge.FULL);
    }

    static void promise13_itsRefusals() {
        Edge.says("STATE: none.");
        refuses("undo", Edge.STATE);
    }

    static void promise14_itsRefusals() {
        Edge.says("BAD.");
        refuses("pier", Edge.BAD);
    }

    static void promise15_itsRefusals() {
        Edge.says("SPANS (what = 0), PLACE (1). BAD.");
        refuses("ahead", Edge.BAD);
    }

    static void promise16_itsRefusals() {
        Edge.says("BAD; STATE: no COAST (ahead of BAD).");
        refuses("purse", Edge.BAD, Edge.STATE);
    }

    static void promise17_itsRefusals() {
        Edge.says("GONE; NONE. BAD.");
        refuses("gone", Edge.BAD, Edge.NONE);
    }

    static void promise18_itsRefusals() {
        Edge.says("NONE. BAD: PLACE (0 to 9), out, too.");
        refuses("aim", Edge.BAD, Edge.NONE);
    }

    static void promise19_itsRefusals() {
        Edge.says("BAD; STATE: no COAST (ahead of BAD).");
        refuses("take", Edge.BAD, Edge.STATE);
    }

    static void promise20_itsRefusals() {
        Edge.says("NONE: no such PIER). BAD: k not -2 to 4, too; STATE: no COAST (ahead of BAD).");
        refuses("give", Edge.BAD, Edge.STATE, Edge.NONE);
    }

    static void promise21_itsRefusals() {
        Edge.says("NONE. BAD; STATE: no COAST (ahead of BAD).");
        refuses("turning", Edge.BAD, Edge.STATE, Edge.NONE);
    }

    static void promise22_itsRefusals() {
        Edge.says("NONE (1, 2). BAD; STATE: no COAST (ahead of BAD).");
        refuses("cross", Edge.BAD, Edge.STATE, Edge.NONE);
    }

    static void promise23_itsRefusals() {
        Edge.says("BAD: PIER, ROW, n, what; NULL; PLACE.");
        refuses("fits", Edge.BAD, Edge.NULL, Edge.PLACE);
    }

    static void promise24_itsRefusals() {
        Edge.says("BAD; STATE: no COAST (ahead of BAD).");
        refuses("fire", Edge.BAD, Edge.STATE);
    }

    static void promise25_itsRefusals() {
        Edge.says("BAD; STATE: no COAST (ahead of BAD).");
        refuses("drawn", Edge.BAD, Edge.STATE);
    }

    static void promise26_itsRefusals() {
        Edge.says("BAD; STATE: no COAST.");
        refuses("image", Edge.BAD, Edge.STATE);
    }

    static void promise27_itsRefusals() {
        Edge.says("BAD; STATE: none was kept.");
        refuses("restore", Edge.BAD, Edge.STATE);
    }

    static void promise28_itsRefusals() {
        Edge.says("BAD.");
        refuses("kind", Edge.BAD);
    }

    static void promise29_itsRefusals() {
        Edge.says("BAD; KIND: it is no such one.");
        refuses("as", Edge.BAD, Edge.KIND);
    }

    static void promise30_itsRefusals() {
        Edge.says("An ASK (0, 1) of a PIER. BAD.");
        refuses("ask", Edge.BAD);
    }

    static void promise31_itsRefusals() {
        Edge.says("Number i of THE TRACE; NONE.");
        refuses("trace", Edge.NONE);
    }

    static void promise32_itsRefusals() {
        Edge.says("8 all SPANS. BAD.");
        refuses("count", Edge.BAD);
    }

    static void promise33_itHasNone() {
        Edge.says("0: it had none, or there was none.");
        refuses("status");
    }
}
