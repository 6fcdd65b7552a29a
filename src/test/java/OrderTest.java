import java.util.ArrayList;
import java.util.List;

/**
 * "Refusals, the first that the call's words name; they change nothing": every call with every mix of
 * numbers at, inside and outside its edges, in a pool with room, one with 20 things, one with 96 blocks.
 */
public final class OrderTest {
    private static final int NONE = Check.NONE, BAD = Check.BAD, STATE = Check.STATE, FULL = Check.FULL;
    private static final int ABSENT = Check.ABSENT, OUTSIDE = Check.OUTSIDE, OTHER = Check.OTHER;
    private static final int NEGATIVE = Check.NEGATIVE;
    private static final long NO = Check.NO;
    private static final int BILLION = 1000000000;
    private static final int[] ANY = {0, 1, 2, 3, 4};
    private static final int[] FILES = {0, 1};
    private static final int[] SNAPSHOTS = {2, 3};
    private static final int[] HOLDERS = {0, 1, 2, 3};
    private static final Check CHECK = new Check("OrderTest");

    private interface Call {
        long on(DeadListPool x, long[] a);
    }

    private interface Holds {
        boolean of(long[] a);
    }

    private final Edge edge;
    private final int[] kinds;
    private final boolean thingsFull;
    private final boolean blocksFull;

    private String name;
    private Call call;
    private boolean onlyAsks;
    private final List<long[]> values = new ArrayList<>();
    private final List<Long> answers = new ArrayList<>();
    private final List<Holds> cases = new ArrayList<>();

    private OrderTest(Everything.Run before, int[] kinds, boolean thingsFull, boolean blocksFull) {
        this.edge = new Edge(CHECK, before);
        this.kinds = kinds;
        this.thingsFull = thingsFull;
        this.blocksFull = blocksFull;
    }

    public static void main(String[] args) {
        new OrderTest(Samples::kinds, Samples.kindsThere(), false, false).all();
        new OrderTest(Samples::twentyThings, Samples.twentyKinds(), true, false).all();
        new OrderTest(Samples::allBlocks, Samples.allBlocksKinds(), false, true).all();
        CHECK.end();
    }

    private void all() {
        changing();
        asking();
        removing();
        sheets();
        lots();
    }

    // -- the words of a call

    private OrderTest words(String newName, Call newCall) {
        name = newName;
        call = newCall;
        onlyAsks = false;
        values.clear();
        answers.clear();
        cases.clear();
        return this;
    }

    /** The words of a call that changes nothing, whether it is refused or not. */
    private OrderTest asks(String newName, Call newCall) {
        words(newName, newCall);
        onlyAsks = true;
        return this;
    }

    private OrderTest when(long answer, Holds holds) {
        answers.add(answer);
        cases.add(holds);
        return this;
    }

    /** The next number of the call, with values on both sides of both edges. */
    private OrderTest within(long answer, long least, long most) {
        int i = values.size();
        values.add(new long[] {Integer.MIN_VALUE, least - 1, least, most, most + 1, Integer.MAX_VALUE});
        return when(answer, a -> a[i] < least || a[i] > most);
    }

    /** The next number of the call: any will do. */
    private OrderTest any(long... some) {
        values.add(some);
        return this;
    }

    private int thing() {
        values.add(new long[] {Integer.MIN_VALUE, -1, 0, 1, 2, 3, 4, 5, 6, 19, 20, Integer.MAX_VALUE});
        return values.size() - 1;
    }

    private int kindOf(long of) {
        return of < 0 || of > 19 ? Samples.NO_THING : kinds[(int) of];
    }

    private boolean isOf(long of, int[] some) {
        for (int k : some) {
            if (kindOf(of) == k) {
                return true;
            }
        }
        return false;
    }

    private OrderTest asked(int i, int... some) {
        when(OUTSIDE, a -> a[i] < 0 || a[i] > 19);
        when(ABSENT, a -> kindOf(a[i]) == Samples.NO_THING);
        return when(OTHER, a -> !isOf(a[i], some));
    }

    private OrderTest no(int i, int... some) {
        return when(NO, a -> !isOf(a[i], some));
    }

    // -- every mix of the values

    private void mix() {
        mix(new long[values.size()], 0);
    }

    private void mix(long[] a, int i) {
        if (i == a.length) {
            one(a);
            return;
        }
        for (long v : values.get(i)) {
            a[i] = v;
            mix(a, i + 1);
        }
    }

    private void one(long[] a) {
        StringBuilder text = new StringBuilder(name).append('(');
        for (int i = 0; i < a.length; i++) {
            text.append(i == 0 ? "" : ", ").append(a[i]);
        }
        text.append(')');
        for (int i = 0; i < cases.size(); i++) {
            if (cases.get(i).of(a)) {
                edge.still(text.toString(), x -> call.on(x, a), answers.get(i));
                return;
            }
        }
        long answer = call.on(edge.fresh(), a);
        CHECK.isTrue(text + " is not refused", !isRefusal(answer));
        if (onlyAsks) {
            edge.still(text.toString(), x -> call.on(x, a), answer);
        }
    }

    private static boolean isRefusal(long answer) {
        return answer == NO || (answer <= BAD && answer >= FULL) || (answer <= ABSENT && answer >= NEGATIVE);
    }

    // -- the calls

    private void changing() {
        words("2 files", (x, a) -> x.files((int) a[0]));
        within(BAD, NONE, BILLION).when(FULL, a -> thingsFull).mix();

        words("3 write", (x, a) -> x.write((int) a[2], (int) a[0], (int) a[1]));
        within(BAD, 0, 11).within(BAD, 1, BILLION).asked(thing(), FILES);
        when(FULL, a -> blocksFull).when(FULL, a -> kindOf(a[2]) == 1 && a[1] > 100).mix();

        words("4 erase", (x, a) -> x.erase((int) a[1], (int) a[0]));
        within(BAD, 0, 11).asked(thing(), FILES).mix();

        words("5 snap", (x, a) -> x.snap((int) a[1], (int) a[0]));
        within(BAD, 0, 1).asked(thing(), FILES).when(FULL, a -> thingsFull).mix();

        words("6 tag", (x, a) -> x.tag((int) a[1], (int) a[0]));
        within(BAD, 0, 9).asked(thing(), 3).mix();

        words("7 mark", (x, a) -> x.mark((int) a[0]));
        asked(thing(), SNAPSHOTS).when(FULL, a -> thingsFull).mix();

        words("8 remove", (x, a) -> x.remove((int) a[0]));
        asked(thing(), ANY).when(STATE, a -> a[0] == 0 || a[0] == 2 || a[0] == 3).mix();

        words("9 fork", (x, a) -> x.fork((int) a[0]));
        asked(thing(), SNAPSHOTS).when(FULL, a -> thingsFull).mix();

        words("10 promote", (x, a) -> x.promote((int) a[0]));
        asked(thing(), FILES).when(STATE, a -> a[0] != 5).mix();

        words("11 rollback", (x, a) -> x.rollback((int) a[0]));
        asked(thing(), FILES).when(STATE, a -> a[0] != 0 && a[0] != 5).mix();

        words("12 tick", (x, a) -> x.tick()).mix();
    }

    private void asking() {
        asks("13 told", (x, a) -> x.told((int) a[1], (int) a[0])).within(BAD, 0, 9).asked(thing(), ANY).mix();
        asks("14 slot", (x, a) -> x.slot((int) a[1], (int) a[0])).within(BAD, 0, 11).asked(thing(), HOLDERS).mix();

        asks("15 block", (x, a) -> x.block((int) a[1], (int) a[0])).within(BAD, 0, 2).within(OUTSIDE, 0, 95);
        when(ABSENT, a -> a[1] == 95 && !blocksFull).mix();

        asks("16 taken", (x, a) -> x.taken((int) a[1], (int) a[0])).within(BAD, 0, 4);
        values.set(0, new long[] {Integer.MIN_VALUE, -1, 0, 1, 2, 3, 4, 5, Integer.MAX_VALUE});
        asked(thing(), ANY).when(OTHER, a -> !fits(kindOf(a[1]), a[0])).mix();

        asks("17 dead", (x, a) -> x.dead((int) a[1], (int) a[0])).within(BAD, 0, 2).asked(thing(), HOLDERS).mix();

        asks("18 deadList", (x, a) -> x.deadList((int) a[0], (int) a[1])).no(thing(), HOLDERS);
        any(Integer.MIN_VALUE, -1, 0, 1, 2, 20, Integer.MAX_VALUE);
        when(NO, a -> a[1] < 0 || a[1] >= chainLength(a[0])).mix();

        asks("19 space", (x, a) -> x.space((int) a[0])).no(thing(), HOLDERS).mix();
        asks("20 alone", (x, a) -> x.alone((int) a[0])).no(thing(), HOLDERS).mix();

        asks("21 range", (x, a) -> x.range((int) a[0], (int) a[1])).no(thing(), SNAPSHOTS).no(thing(), SNAPSHOTS);
        when(NO, a -> a[0] == 3 && a[1] == 2).mix();

        asks("22 since", (x, a) -> x.since((int) a[0], (int) a[1])).no(thing(), HOLDERS).no(thing(), ANY).mix();
        asks("23 common", (x, a) -> x.common((int) a[0], (int) a[1])).no(thing(), HOLDERS).no(thing(), HOLDERS).mix();
    }

    private static boolean fits(int kind, long asked) {
        return kind == asked || (kind == 1 && asked == 0) || (kind == 3 && asked == 2);
    }

    private static int chainLength(long of) {
        return of == 0 ? 2 : of == 3 || of == 5 ? 1 : 0;
    }

    private void removing() {
        asks("24 most", (x, a) -> x.most((int) a[1], (int) a[0])).within(NO, 0, 8).no(thing(), FILES).mix();

        asks("25 fewest", (x, a) -> x.fewest((int) a[0], a[1])).asked(thing(), FILES);
        any(Long.MIN_VALUE, -1, 0, 1, Long.MAX_VALUE).mix();

        words("26 expire", (x, a) -> x.expire((int) a[2], (int) a[0], (int) a[1]));
        within(BAD, 0, 20).within(BAD, 1, 100).asked(thing(), FILES).mix();
    }

    private void sheets() {
        words("27 sheet", (x, a) -> x.sheet((int) a[0], (int) a[1], (int) a[2])).within(BAD, 0, 3).within(BAD, -1, 1);
        values.set(1, new long[] {Integer.MIN_VALUE, -2, -1, 0, 1, 2, Integer.MAX_VALUE});
        any(Integer.MIN_VALUE, -1, 0, 1, 40, 41, Integer.MAX_VALUE);
        when(BAD, a -> a[1] >= 0 && a[2] > 40).when(NEGATIVE, a -> a[1] >= 0 && a[2] < 0).mix();

        words("28 cell", (x, a) -> x.cell((int) a[0], (int) a[1], a[2])).within(BAD, 0, 3);
        values.set(0, new long[] {Integer.MIN_VALUE, -1, 0, 1, 2, 3, 4, Integer.MAX_VALUE});
        any(Integer.MIN_VALUE, -1, 0, 3, 4, Integer.MAX_VALUE).any(Long.MIN_VALUE, -7, Long.MAX_VALUE);
        when(ABSENT, a -> a[0] == 3).when(OUTSIDE, a -> a[1] < 0 || a[1] >= itemCount(a[0])).mix();

        asks("29 item", (x, a) -> x.item((int) a[0], (int) a[1])).within(NO, 0, 3);
        values.set(0, new long[] {Integer.MIN_VALUE, -1, 0, 1, 2, 3, 4, Integer.MAX_VALUE});
        any(Integer.MIN_VALUE, -1, 0, 3, 4, Integer.MAX_VALUE);
        when(NO, a -> a[1] < 0 || a[1] >= itemCount(a[0])).mix();

        words("30 differ", (x, a) -> x.differ((int) a[0], (int) a[1], (int) a[2])).within(BAD, 0, 3);
        asked(thing(), HOLDERS).asked(thing(), HOLDERS).mix();

        words("31 apply", (x, a) -> x.apply((int) a[2], (int) a[0], (int) a[1])).within(BAD, 0, 3).within(BAD, 0, 1);
        values.set(0, new long[] {Integer.MIN_VALUE, -1, 0, 1, 2, 3, 4, Integer.MAX_VALUE});
        asked(thing(), FILES).when(OTHER, a -> a[0] != 3 && (a[0] == 1 ? 1 : 0) != a[1]).when(ABSENT, a -> a[0] == 3).mix();
    }

    private static int itemCount(long sheet) {
        return sheet == 0 || sheet == 1 ? 4 : 0;
    }

    private void lots() {
        asks("32 drawn", (x, a) -> x.drawn((int) a[0], (int) a[1], (int) a[2]));
        any(Integer.MIN_VALUE, 0, Integer.MAX_VALUE).within(NO, 0, 60).within(NO, 0, 3).mix();
        words("33 image", (x, a) -> x.image()).mix();
        words("34 back", (x, a) -> x.back()).mix();
        asks("35 count", (x, a) -> x.count((int) a[0])).within(BAD, 0, 3).mix();
    }
}
