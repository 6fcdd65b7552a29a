import java.util.ArrayList;
import java.util.List;
import java.util.Random;

/** Runs of drawn calls, the class against PlainPool: every answer, and now and then all that there is. */
public final class RandomRunsTest {
    private static final int RUNS = 1500;
    private static final int CALLS = 512;
    private static final int[] SIZES = {1, 2, 3, 5, 8, 13, 40, 1000, 999999999, 1000000000};
    private static final int[] ODD_SIZES = {0, -1, 1000000001, Integer.MIN_VALUE, Integer.MAX_VALUE};
    private static final Check CHECK = new Check("RandomRunsTest");

    private final Random random;
    private final DeadListPool x = new DeadListPool();
    private final PlainPool y = new PlainPool();
    private final List<String> calls = new ArrayList<>();
    private final int changing;
    private boolean failed;

    private RandomRunsTest(long seed) {
        random = new Random(seed);
        changing = 45 + random.nextInt(50);
    }

    public static void main(String[] args) {
        int runs = args.length > 0 ? Integer.parseInt(args[0]) : RUNS;
        for (int seed = 0; seed < runs && CHECK.wrongCount() < 5; seed++) {
            new RandomRunsTest(seed).run();
        }
        CHECK.end();
    }

    private void run() {
        for (int i = 0; i < CALLS && !failed; i++) {
            if (random.nextInt(100) < changing) {
                change();
            } else {
                ask();
            }
        }
        if (!failed) {
            askAll();
        }
        if (failed) {
            int from = Math.max(0, calls.size() - 60);
            System.out.println("  the last calls: " + String.join("; ", calls.subList(from, calls.size())));
        }
    }

    private void due(String call, long got, long want) {
        calls.add(call + " = " + got);
        failed |= got != want;
        CHECK.due(call, got, want);
    }

    private static String call(String name, long... values) {
        StringBuilder text = new StringBuilder(name).append('(');
        for (int i = 0; i < values.length; i++) {
            text.append(i == 0 ? "" : ", ").append(values[i]);
        }
        return text.append(')').toString();
    }

    private int pick(int[] row) {
        return row[random.nextInt(row.length)];
    }

    /** Mostly a number within, now and then one just outside, or far. */
    private int number(int bound) {
        int odd = random.nextInt(60);
        if (odd == 0) {
            return random.nextBoolean() ? -1 : bound;
        }
        if (odd == 1) {
            return random.nextInt();
        }
        return random.nextInt(bound);
    }

    private int thing() {
        return random.nextInt(3) == 0 ? number(20) : ofKind(0, 4);
    }

    private int ofKind(int from, int to) {
        if (random.nextInt(12) == 0) {
            return number(20);
        }
        int at = random.nextInt(20);
        for (int i = 0; i < 20; i++) {
            int of = (at + i) % 20;
            int kind = y.told(of, 0);
            if (kind >= from && kind <= to) {
                return of;
            }
        }
        return number(20);
    }

    private int files() {
        return ofKind(0, 1);
    }

    private int snapshot() {
        return ofKind(2, 3);
    }

    private int size() {
        return random.nextInt(30) == 0 ? pick(ODD_SIZES) : random.nextInt(3) == 0 ? pick(SIZES) : 1 + random.nextInt(30);
    }

    private void change() {
        int of;
        int a;
        int b;
        switch (random.nextInt(26)) {
            case 0:
                a = random.nextInt(3) == 0 ? size() - 1 : random.nextInt(8) == 0 ? -2 : -1;
                due(call("files", a), x.files(a), y.files(a));
                break;
            case 1, 2, 3, 4, 5, 6, 7:
                of = files();
                a = number(12);
                b = size();
                due(call("write", of, a, b), x.write(of, a, b), y.write(of, a, b));
                break;
            case 8, 9:
                of = files();
                a = number(12);
                due(call("erase", of, a), x.erase(of, a), y.erase(of, a));
                break;
            case 10, 11, 12:
                of = files();
                a = random.nextInt(6) == 0 ? number(2) : 0;
                due(call("snap", of, a), x.snap(of, a), y.snap(of, a));
                break;
            case 13:
                of = ofKind(3, 3);
                a = random.nextBoolean() ? 0 : number(10);
                due(call("tag", of, a), x.tag(of, a), y.tag(of, a));
                break;
            case 14:
                of = snapshot();
                if (random.nextInt(3) == 0) {
                    due(call("mark", of), x.mark(of), y.mark(of));
                }
                break;
            case 15, 16:
                of = random.nextBoolean() ? snapshot() : thing();
                due(call("remove", of), x.remove(of), y.remove(of));
                break;
            case 17:
                of = snapshot();
                due(call("fork", of), x.fork(of), y.fork(of));
                break;
            case 18:
                of = files();
                due(call("promote", of), x.promote(of), y.promote(of));
                break;
            case 19:
                of = files();
                due(call("rollback", of), x.rollback(of), y.rollback(of));
                break;
            case 20:
                due("tick()", x.tick(), y.tick());
                break;
            case 21:
                if (random.nextInt(4) == 0) {
                    of = files();
                    a = number(21);
                    b = 1 + number(100);
                    due(call("expire", of, a, b), x.expire(of, a, b), y.expire(of, a, b));
                }
                break;
            case 22:
                if (random.nextInt(3) == 0) {
                    due("image()", x.image(), y.image());
                } else if (random.nextInt(4) == 0) {
                    due("back()", x.back(), y.back());
                }
                break;
            default:
                sheets();
        }
    }

    private void sheets() {
        int sheet = number(4);
        int sort = random.nextInt(10) == 0 ? number(3) - 1 : random.nextInt(2);
        switch (random.nextInt(5)) {
            case 0:
                int n = random.nextInt(8) == 0 ? number(41) : random.nextInt(9);
                due(call("sheet", sheet, sort, n), x.sheet(sheet, sort, n), y.sheet(sheet, sort, n));
                break;
            case 1:
                int of = thing();
                int other = thing();
                due(call("differ", sheet, of, other), x.differ(sheet, of, other), y.differ(sheet, of, other));
                break;
            case 2:
                int to = files();
                due(call("apply", to, sheet, sort), x.apply(to, sheet, sort), y.apply(to, sheet, sort));
                break;
            default:
                int i = random.nextInt(8) == 0 ? number(40) : random.nextInt(8);
                long v = random.nextInt(6) == 0 ? random.nextLong() : i % 2 == 0 ? number(12) : size();
                if (random.nextInt(8) == 0) {
                    v += 4294967296L;
                }
                due(call("cell", sheet, i, v), x.cell(sheet, i, v), y.cell(sheet, i, v));
        }
    }

    private void ask() {
        int of = thing();
        int a;
        int b;
        switch (random.nextInt(18)) {
            case 0:
                a = number(10);
                due(call("told", of, a), x.told(of, a), y.told(of, a));
                break;
            case 1:
                a = number(12);
                due(call("slot", of, a), x.slot(of, a), y.slot(of, a));
                break;
            case 2:
                a = number(96) / (1 + random.nextInt(6));
                b = number(3);
                due(call("block", a, b), x.block(a, b), y.block(a, b));
                break;
            case 3:
                a = number(5);
                due(call("taken", of, a), x.taken(of, a), y.taken(of, a));
                break;
            case 4:
                a = number(3);
                due(call("dead", of, a), x.dead(of, a), y.dead(of, a));
                break;
            case 5:
                a = random.nextInt(5) == 0 ? number(20) : random.nextInt(4);
                due(call("deadList", of, a), x.deadList(of, a), y.deadList(of, a));
                break;
            case 6:
                due(call("space", of), x.space(of), y.space(of));
                break;
            case 7:
                due(call("alone", of), x.alone(of), y.alone(of));
                break;
            case 8, 9:
                a = snapshot();
                b = snapshot();
                due(call("range", a, b), x.range(a, b), y.range(a, b));
                break;
            case 10:
                a = thing();
                due(call("since", of, a), x.since(of, a), y.since(of, a));
                break;
            case 11:
                a = thing();
                due(call("common", of, a), x.common(of, a), y.common(of, a));
                break;
            case 12:
                a = files();
                b = number(9);
                due(call("most", a, b), x.most(a, b), y.most(a, b));
                break;
            case 13:
                a = files();
                long least = random.nextInt(6) == 0 ? random.nextLong() : random.nextInt(4) == 0 ? size() : random.nextInt(30);
                due(call("fewest", a, least), x.fewest(a, least), y.fewest(a, least));
                break;
            case 14:
                a = number(4);
                b = number(41);
                due(call("item", a, b), x.item(a, b), y.item(a, b));
                break;
            case 15:
                int seed = random.nextInt();
                a = number(61);
                b = number(4);
                due(call("drawn", seed, a, b), x.drawn(seed, a, b), y.drawn(seed, a, b));
                break;
            default:
                a = number(4);
                due(call("count", a), x.count(a), y.count(a));
        }
    }

    private void askAll() {
        for (int of = 0; of < 20; of++) {
            for (int what = 0; what < 10; what++) {
                due(call("told", of, what), x.told(of, what), y.told(of, what));
            }
            for (int slot = 0; slot < 12; slot++) {
                due(call("slot", of, slot), x.slot(of, slot), y.slot(of, slot));
            }
            for (int what = 0; what < 3; what++) {
                due(call("dead", of, what), x.dead(of, what), y.dead(of, what));
            }
            for (int k = 0; k < 20; k++) {
                due(call("deadList", of, k), x.deadList(of, k), y.deadList(of, k));
                due(call("range", of, k), x.range(of, k), y.range(of, k));
                due(call("since", of, k), x.since(of, k), y.since(of, k));
                due(call("common", of, k), x.common(of, k), y.common(of, k));
            }
            due(call("space", of), x.space(of), y.space(of));
            due(call("alone", of), x.alone(of), y.alone(of));
        }
        for (int b = 0; b < 96; b++) {
            for (int what = 0; what < 3; what++) {
                due(call("block", b, what), x.block(b, what), y.block(b, what));
            }
        }
        for (int sheet = 0; sheet < 4; sheet++) {
            for (int i = 0; i < 41; i++) {
                due(call("item", sheet, i), x.item(sheet, i), y.item(sheet, i));
            }
        }
        for (int what = 0; what < 4; what++) {
            due(call("count", what), x.count(what), y.count(what));
            due(call("drawn", 7, 60, what), x.drawn(7, 60, what), y.drawn(7, 60, what));
        }
    }
}
