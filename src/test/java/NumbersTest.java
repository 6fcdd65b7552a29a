import java.util.ArrayList;
import java.util.List;

/**
 * "numbered 0 .. 19 .. a new one gets the least number that none has": a thing is the same at every
 * number, 0 and 19 too, and has nothing of the one that had its number before.
 */
public final class NumbersTest {
    private static final int NONE = Check.NONE;
    private static final int KINDS = 6;
    private static final String[] NAMES = {"FILES", "BOUND", "SNAPSHOT", "TAGGED", "BOOKMARK", "a fork"};
    private static final Check CHECK = new Check("NumbersTest");

    public static void main(String[] args) {
        sameAtEachNumber();
        nothingOfTheFormer();
        CHECK.end();
    }

    private static void due(String call, long got, long want) {
        CHECK.due(call, got, want);
    }

    // -- the same things at other numbers

    private static void sameAtEachNumber() {
        int[] plain = {0, 1, 2, 3, 4, 5};
        List<Long> asked = asked(placed(plain), plain);
        List<Long> removed = removed(placed(plain), plain);
        for (int shift = 0; shift < 20; shift++) {
            for (int step = 1; step < 20; step += 2) {
                int[] at = new int[KINDS];
                for (int i = 0; i < KINDS; i++) {
                    at[i] = (shift + step * i) % 20;
                }
                if (step % 5 != 0) {
                    same("from " + shift + " by " + step, asked(placed(at), at), asked);
                    same("removed from " + shift + " by " + step, removed(placed(at), at), removed);
                }
            }
        }
    }

    private static void same(String name, List<Long> got, List<Long> want) {
        due(name + ": answers", got.size(), want.size());
        for (int i = 0; i < want.size(); i++) {
            due(name + ", answer " + i, got.get(i), want.get(i));
        }
    }

    /** As Samples.kinds, but each thing with the number told: all others are taken when it is made. */
    private static DeadListPool placed(int[] at) {
        DeadListPool x = new DeadListPool();
        for (int of = 0; of < 20; of++) {
            x.files(NONE);
        }
        x.remove(at[0]);
        x.files(NONE);
        x.remove(at[1]);
        x.files(100);
        x.write(at[0], 0, 3);
        x.write(at[0], 1, 5);
        x.write(at[1], 0, 40);
        x.remove(at[2]);
        x.snap(at[0], 0);
        x.write(at[0], 0, 7);
        x.remove(at[3]);
        x.snap(at[0], 1);
        x.remove(at[4]);
        x.mark(at[2]);
        x.remove(at[5]);
        x.fork(at[2]);
        x.write(at[5], 11, 9);
        x.write(at[0], 2, 11);
        x.erase(at[0], 1);
        return x;
    }

    /** The place of a number among those told, or the number itself where it is none. */
    private static long place(int[] at, long number) {
        for (int i = 0; i < at.length; i++) {
            if (at[i] == number) {
                return i;
            }
        }
        return number;
    }

    private static List<Long> asked(DeadListPool x, int[] at) {
        List<Long> all = new ArrayList<>();
        for (int of : at) {
            for (int what = 0; what < 10; what++) {
                long told = x.told(of, what);
                all.add(what >= 2 && what <= 4 ? place(at, told) : told);
            }
            for (int what = 0; what < 3; what++) {
                all.add((long) x.dead(of, what));
            }
            for (int k = 0; k < 3; k++) {
                all.add(x.deadList(of, k));
            }
            for (int other : at) {
                all.add(x.since(of, other));
                all.add(x.common(of, other));
                all.add(x.range(of, other));
                all.add((long) x.differ(0, of, other));
            }
            all.add(x.space(of));
            all.add(x.alone(of));
            all.add(x.most(of, 8));
        }
        for (int b = 0; b < 8; b++) {
            all.add((long) x.block(b, 2));
        }
        return all;
    }

    private static List<Long> removed(DeadListPool x, int[] at) {
        List<Long> all = new ArrayList<>();
        for (int of : at) {
            all.add((long) x.promote(of));
        }
        all.add((long) x.tag(at[3], 0));
        for (int of : at) {
            all.add((long) x.told(of, 9));
            all.add(x.most(of, 8));
            all.add((long) x.fewest(of, 1));
        }
        all.add((long) x.rollback(at[5]));
        all.add((long) x.expire(at[0], 0, 100));
        for (int round = 0; round < 3; round++) {
            for (int of : at) {
                all.add((long) x.remove(of));
                all.add((long) x.count(3));
            }
        }
        for (int what = 0; what < 4; what++) {
            all.add((long) x.count(what));
        }
        return all;
    }

    // -- a number that is taken anew

    private static void nothingOfTheFormer() {
        for (int former = 0; former < KINDS; former++) {
            for (int kind = 0; kind < KINDS; kind++) {
                takenAnew(former, kind);
            }
        }
    }

    /** Files 0 own snapshot 1; number 2 is had by the former, then by one of the kind. */
    private static void takenAnew(int former, int kind) {
        DeadListPool x = new DeadListPool();
        x.files(NONE);
        x.write(0, 3, 8);
        x.write(0, 4, 9);
        x.snap(0, 0);
        x.erase(0, 4);
        String name = NAMES[kind] + " in the place of " + NAMES[former];
        due(name, make(x, former), 2);
        letGo(x, former);
        int now = x.count(2);
        due(name, make(x, kind), 2);
        int[][] rows = {
            {0, now, NONE, NONE, NONE, 0, 0, 0, NONE, 0},
            {1, now, NONE, NONE, NONE, 0, 0, 0, 50, 0},
            {2, now, 1, 0, NONE, 1, 1, 0, NONE, 0},
            {3, now, 1, 0, NONE, 1, 1, 1, NONE, 0},
            {4, 1, NONE, NONE, NONE, 0, 0, 0, NONE, 0},
            {0, now, 1, NONE, 1, 0, 2, 0, NONE, 0}};
        for (int what = 0; what < 10; what++) {
            due(name + ", told " + what, x.told(2, what), rows[kind][what]);
        }
        for (int slot = 0; slot < 12; slot++) {
            due(name + ", slot " + slot, x.slot(2, slot), slotDue(kind, slot));
        }
        due(name + ", own", x.told(0, 9), kind == 2 || kind == 3 ? 2 : 1);
    }

    private static int slotDue(int kind, int slot) {
        if (kind == 4) {
            return Check.OTHER;
        }
        boolean first = slot == 3 && (kind == 2 || kind == 3 || kind == 5);
        boolean second = slot == 4 && kind == 5;
        return first ? 0 : second ? 1 : NONE;
    }

    private static int make(DeadListPool x, int kind) {
        switch (kind) {
            case 0: return x.files(NONE);
            case 1: return x.files(50);
            case 2: return x.snap(0, 0);
            case 3: return x.snap(0, 1);
            case 4: return x.mark(1);
            default: return x.fork(1);
        }
    }

    /** The former gets all it can have, and goes. */
    private static void letGo(DeadListPool x, int former) {
        for (int slot = 0; slot < 12; slot++) {
            x.write(2, slot, 1);
        }
        x.tag(2, 9);
        x.tag(2, 0);
        x.remove(2);
        due("the former went: " + NAMES[former], x.told(2, 0), Check.ABSENT);
    }
}
