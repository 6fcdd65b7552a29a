import java.util.ArrayList;
import java.util.Arrays;
import java.util.Collections;
import java.util.HashSet;
import java.util.List;
import java.util.Set;
import java.util.TreeMap;

/**
 * The document's words taken one by one, with no thought of cost: after each act every block is looked
 * for in every thing, and those that none holds are freed. The class is held against it.
 */
final class PlainPool {
    private static final int NONE = -1, BAD = -2, STATE = -3, FULL = -4;
    private static final long NO = Check.NO;

    private static final class Block {
        int size;
        int birth;
    }

    private static final class Thing {
        int kind;
        int made;
        Integer[] slots = new Integer[12];
        Integer prev;
        Integer owner;
        int tags;
        int quota = NONE;

        Thing copy() {
            Thing t = new Thing();
            t.kind = kind;
            t.made = made;
            t.slots = slots.clone();
            t.prev = prev;
            t.owner = owner;
            t.tags = tags;
            t.quota = quota;
            return t;
        }

        boolean isFiles() {
            return kind <= 1;
        }

        boolean isSnapshot() {
            return kind == 2 || kind == 3;
        }

        Set<Integer> held() {
            Set<Integer> set = new HashSet<>(Arrays.asList(slots));
            set.remove(null);
            return set;
        }
    }

    private TreeMap<Integer, Thing> things = new TreeMap<>();
    private TreeMap<Integer, Block> blocks = new TreeMap<>();
    private int time = 1;
    private int freed;
    private final long[][] sheets = new long[4][];
    private final int[] sorts = {NONE, NONE, NONE, NONE};
    private PlainPool image;

    private PlainPool copyOfKept() {
        PlainPool p = new PlainPool();
        things.forEach((k, v) -> p.things.put(k, v.copy()));
        p.blocks = new TreeMap<>(blocks); // blocks never change
        p.time = time;
        p.freed = freed;
        return p;
    }

    // -- terms

    private static int least(TreeMap<Integer, ?> map, int bound) {
        for (int i = 0; i < bound; i++) {
            if (!map.containsKey(i)) {
                return i;
            }
        }
        return FULL;
    }

    private int add(Thing t) {
        int number = least(things, 20);
        if (number != FULL) {
            things.put(number, t);
        }
        return number;
    }

    /** Frees what no thing holds: how many. */
    private int sweep() {
        Set<Integer> held = new HashSet<>();
        things.values().forEach(t -> held.addAll(t.held()));
        int before = blocks.size();
        blocks.keySet().retainAll(held);
        freed += before - blocks.size();
        return before - blocks.size();
    }

    private int asked(int of, int... kinds) {
        if (of < 0 || of > 19) {
            return -12;
        }
        if (!things.containsKey(of)) {
            return -11;
        }
        for (int k : kinds) {
            if (things.get(of).kind == k) {
                return 0;
            }
        }
        return -13;
    }

    private List<Integer> chain(int of) {
        List<Integer> list = new ArrayList<>();
        for (Integer p = things.get(of).prev; p != null; p = things.get(p).prev) {
            list.add(p);
        }
        return list;
    }

    private List<Integer> next(int of) {
        List<Integer> list = new ArrayList<>();
        things.forEach((k, t) -> {
            if (t.prev != null && t.prev == of) {
                list.add(k);
            }
        });
        return list;
    }

    /** Own snapshots, the newest first. */
    private List<Integer> own(int of) {
        List<Integer> list = new ArrayList<>();
        things.forEach((k, t) -> {
            if (t.owner != null && t.owner == of) {
                list.add(k);
            }
        });
        list.sort((a, b) -> things.get(b).made - things.get(a).made);
        return list;
    }

    private Integer origin(int of) {
        for (int s : chain(of)) {
            if (things.get(s).owner != of) {
                return s;
            }
        }
        return null;
    }

    private Set<Integer> dead(int of) {
        Set<Integer> set = new HashSet<>();
        Integer prev = things.get(of).prev;
        if (prev != null) {
            set.addAll(things.get(prev).held());
            set.removeAll(things.get(of).held());
        }
        return set;
    }

    private long sizes(Set<Integer> set) {
        return set.stream().mapToLong(b -> blocks.get(b).size).sum();
    }

    private boolean loose(int of) {
        Thing t = things.get(of);
        return t.isSnapshot() && t.tags <= 0 && next(of).size() == 1;
    }

    /** What is held by one of these and by no other thing. */
    private long onlyBy(Set<Integer> these) {
        Set<Integer> in = new HashSet<>();
        Set<Integer> out = new HashSet<>();
        things.forEach((k, t) -> (these.contains(k) ? in : out).addAll(t.held()));
        in.removeAll(out);
        return sizes(in);
    }

    private void take(int snapshot) {
        things.get(next(snapshot).get(0)).prev = things.get(snapshot).prev;
        things.remove(snapshot);
    }

    private int put(int of, int slot, int size) {
        Thing t = things.get(of);
        int number = least(blocks, 96);
        if (number == FULL) {
            return FULL;
        }
        Integer old = t.slots[slot];
        Block b = new Block();
        b.size = size;
        b.birth = time;
        blocks.put(number, b);
        t.slots[slot] = number;
        if (t.kind == 1 && sizes(t.held()) > t.quota) {
            t.slots[slot] = old;
            blocks.remove(number);
            return FULL;
        }
        sweep();
        return number;
    }

    // -- the calls

    int files(int quota) {
        if (quota < -1 || quota > 1000000000) {
            return BAD;
        }
        Thing t = new Thing();
        t.kind = quota == -1 ? 0 : 1;
        t.made = time;
        t.quota = quota;
        return add(t);
    }

    int write(int of, int slot, int size) {
        if (slot < 0 || slot > 11 || size < 1 || size > 1000000000) {
            return BAD;
        }
        int r = asked(of, 0, 1);
        return r != 0 ? r : put(of, slot, size);
    }

    int erase(int of, int slot) {
        if (slot < 0 || slot > 11) {
            return BAD;
        }
        int r = asked(of, 0, 1);
        if (r != 0) {
            return r;
        }
        Integer old = things.get(of).slots[slot];
        things.get(of).slots[slot] = null;
        sweep();
        return old == null ? NONE : old;
    }

    int snap(int of, int tagged) {
        if (tagged != 0 && tagged != 1) {
            return BAD;
        }
        int r = asked(of, 0, 1);
        if (r != 0) {
            return r;
        }
        Thing f = things.get(of);
        Thing s = new Thing();
        s.kind = 2 + tagged;
        s.tags = tagged;
        s.made = time;
        s.slots = f.slots.clone();
        s.prev = f.prev;
        s.owner = of;
        int number = add(s);
        if (number != FULL) {
            f.prev = number;
            time++;
        }
        return number;
    }

    int tag(int of, int v) {
        if (v < 0 || v > 9) {
            return BAD;
        }
        int r = asked(of, 3);
        if (r != 0) {
            return r;
        }
        int old = things.get(of).tags;
        things.get(of).tags = v;
        return old;
    }

    int mark(int of) {
        int r = asked(of, 2, 3);
        if (r != 0) {
            return r;
        }
        Thing m = new Thing();
        m.kind = 4;
        m.made = things.get(of).made;
        return add(m);
    }

    int remove(int of) {
        int r = asked(of, 0, 1, 2, 3, 4);
        if (r != 0) {
            return r;
        }
        Thing t = things.get(of);
        if (t.isSnapshot()) {
            if (t.tags != 0 || next(of).size() >= 2) {
                return STATE;
            }
            take(of);
        } else {
            if (!own(of).isEmpty()) {
                return STATE;
            }
            things.remove(of);
        }
        return sweep();
    }

    int fork(int of) {
        int r = asked(of, 2, 3);
        if (r != 0) {
            return r;
        }
        Thing f = new Thing();
        f.made = time;
        f.slots = things.get(of).slots.clone();
        f.prev = of;
        return add(f);
    }

    int promote(int of) {
        int r = asked(of, 0, 1);
        if (r != 0) {
            return r;
        }
        Integer origin = origin(of);
        if (origin == null) {
            return STATE;
        }
        int former = things.get(origin).owner;
        int n = 0;
        for (int s : chain(of)) {
            if (things.get(s).owner == former) {
                things.get(s).owner = of;
                n++;
            }
        }
        return n;
    }

    int rollback(int of) {
        int r = asked(of, 0, 1);
        if (r != 0) {
            return r;
        }
        Integer prev = things.get(of).prev;
        if (prev == null) {
            return STATE;
        }
        things.get(of).slots = things.get(prev).slots.clone();
        return sweep();
    }

    int tick() {
        return time >= 100000 ? STATE : ++time;
    }

    int told(int of, int what) {
        if (what < 0 || what > 9) {
            return BAD;
        }
        int r = asked(of, 0, 1, 2, 3, 4);
        if (r != 0) {
            return r;
        }
        Thing t = things.get(of);
        Integer origin = t.isFiles() ? origin(of) : null;
        int[] all = {t.kind, t.made, t.prev == null ? NONE : t.prev, t.owner == null ? NONE : t.owner,
            origin == null ? NONE : origin, next(of).size(), t.held().size(), t.tags, t.quota, own(of).size()};
        return all[what];
    }

    int slot(int of, int slot) {
        if (slot < 0 || slot > 11) {
            return BAD;
        }
        int r = asked(of, 0, 1, 2, 3);
        if (r != 0) {
            return r;
        }
        Integer b = things.get(of).slots[slot];
        return b == null ? NONE : b;
    }

    int block(int b, int what) {
        if (what < 0 || what > 2) {
            return BAD;
        }
        if (b < 0 || b > 95) {
            return -12;
        }
        if (!blocks.containsKey(b)) {
            return -11;
        }
        Block k = blocks.get(b);
        int holders = (int) things.values().stream().filter(t -> t.held().contains(b)).count();
        return what == 0 ? k.size : what == 1 ? k.birth : holders;
    }

    int taken(int of, int k) {
        if (k < 0 || k > 4) {
            return BAD;
        }
        int r = k == 0 ? asked(of, 0, 1) : k == 2 ? asked(of, 2, 3) : asked(of, k);
        return r != 0 ? r : things.get(of).made;
    }

    int dead(int of, int what) {
        if (what < 0 || what > 2) {
            return BAD;
        }
        int r = asked(of, 0, 1, 2, 3);
        if (r != 0) {
            return r;
        }
        List<Integer> list = new ArrayList<>(dead(of));
        if (what == 0) {
            return list.size();
        }
        if (list.isEmpty()) {
            return NONE;
        }
        Collections.sort(list);
        if (what == 2) {
            Collections.reverse(list);
        }
        int best = list.get(0);
        for (int b : list) {
            int d = blocks.get(b).birth - blocks.get(best).birth;
            if (what == 1 ? d > 0 : d < 0) {
                best = b;
            }
        }
        return best;
    }

    private boolean holds(int of) {
        return asked(of, 0, 1, 2, 3) == 0;
    }

    long deadList(int of, int k) {
        if (!holds(of)) {
            return NO;
        }
        List<Integer> chain = chain(of);
        if (k < 0 || k >= chain.size()) {
            return NO;
        }
        Set<Integer> set = dead(of);
        set.removeIf(b -> blocks.get(b).birth > things.get(chain.get(k)).made);
        if (k + 1 < chain.size()) {
            set.removeIf(b -> blocks.get(b).birth <= things.get(chain.get(k + 1)).made);
        }
        return sizes(set);
    }

    long space(int of) {
        return holds(of) ? sizes(things.get(of).held()) : NO;
    }

    long alone(int of) {
        return holds(of) ? onlyBy(Set.of(of)) : NO;
    }

    long range(int a, int b) {
        if (asked(a, 2, 3) != 0 || asked(b, 2, 3) != 0) {
            return NO;
        }
        List<Integer> list = new ArrayList<>(List.of(b));
        list.addAll(chain(b));
        int end = list.indexOf(a);
        return end < 0 ? NO : onlyBy(new HashSet<>(list.subList(0, end + 1)));
    }

    long since(int of, int other) {
        if (!holds(of) || asked(other, 0, 1, 2, 3, 4) != 0) {
            return NO;
        }
        Set<Integer> set = things.get(of).held();
        set.removeIf(b -> blocks.get(b).birth <= things.get(other).made);
        return sizes(set);
    }

    long common(int of, int other) {
        if (!holds(of) || !holds(other)) {
            return NO;
        }
        Set<Integer> set = things.get(of).held();
        set.retainAll(things.get(other).held());
        return sizes(set);
    }

    /** What removing each set of the looked-at loose ones frees; by the number of its members, the most. */
    private long[] mostBySize(int of) {
        List<Integer> newest = own(of);
        List<Integer> some = new ArrayList<>(newest.subList(0, Math.min(8, newest.size())));
        some.removeIf(s -> !loose(s));
        long[] most = new long[9];
        for (int set = 0; set < 1 << some.size(); set++) {
            PlainPool p = copyOfKept();
            for (int i = 0; i < some.size(); i++) {
                if ((set >> i & 1) != 0) {
                    p.take(some.get(i));
                }
            }
            long before = p.sizes(p.blocks.keySet());
            p.sweep();
            int n = Integer.bitCount(set);
            most[n] = Math.max(most[n], before - p.sizes(p.blocks.keySet()));
        }
        return most;
    }

    long most(int of, int n) {
        if (n < 0 || n > 8 || asked(of, 0, 1) != 0) {
            return NO;
        }
        long[] most = mostBySize(of);
        return Arrays.stream(most, 0, n + 1).max().getAsLong();
    }

    int fewest(int of, long x) {
        int r = asked(of, 0, 1);
        if (r != 0) {
            return r;
        }
        if (x <= 0) {
            return 0;
        }
        long[] most = mostBySize(of);
        for (int n = 0; n <= 8; n++) {
            if (most[n] >= x) {
                return n;
            }
        }
        return NONE;
    }

    int expire(int of, int newest, int every) {
        if (newest < 0 || newest > 20 || every < 1 || every > 100) {
            return BAD;
        }
        int r = asked(of, 0, 1);
        if (r != 0) {
            return r;
        }
        List<Integer> list = own(of);
        List<Integer> old = new ArrayList<>(list.subList(Math.min(newest, list.size()), list.size()));
        Collections.reverse(old);
        int n = 0;
        for (int s : old) {
            if (things.get(s).made % every != 0 && loose(s)) {
                take(s);
                sweep();
                n++;
            }
        }
        return n;
    }

    int sheet(int sheet, int sort, int n) {
        if (sheet < 0 || sheet > 3 || sort < -1 || sort > 1) {
            return BAD;
        }
        if (sort != -1 && n > 40) {
            return BAD;
        }
        if (sort != -1 && n < 0) {
            return -14;
        }
        sorts[sheet] = sort;
        sheets[sheet] = sort == -1 ? null : new long[n];
        return 1;
    }

    int cell(int sheet, int i, long v) {
        if (sheet < 0 || sheet > 3) {
            return BAD;
        }
        if (sheets[sheet] == null) {
            return -11;
        }
        if (i < 0 || i >= sheets[sheet].length) {
            return -12;
        }
        sheets[sheet][i] = sorts[sheet] == 0 ? (int) v : v;
        return 1;
    }

    long item(int sheet, int i) {
        if (sheet < 0 || sheet > 3 || sheets[sheet] == null || i < 0 || i >= sheets[sheet].length) {
            return NO;
        }
        return sheets[sheet][i];
    }

    int differ(int sheet, int of, int other) {
        if (sheet < 0 || sheet > 3) {
            return BAD;
        }
        int r = asked(of, 0, 1, 2, 3);
        if (r == 0) {
            r = asked(other, 0, 1, 2, 3);
        }
        if (r != 0) {
            return r;
        }
        List<Long> items = new ArrayList<>();
        for (int s = 0; s < 12; s++) {
            Integer there = things.get(other).slots[s];
            Integer here = things.get(of).slots[s];
            if (there == null ? here != null : !there.equals(here)) {
                items.add((long) s);
                items.add(there == null ? 0L : blocks.get(there).size);
            }
        }
        sorts[sheet] = 1;
        sheets[sheet] = items.stream().mapToLong(Long::longValue).toArray();
        return items.size();
    }

    int apply(int of, int sheet, int sort) {
        if (sheet < 0 || sheet > 3 || sort < 0 || sort > 1) {
            return BAD;
        }
        int r = asked(of, 0, 1);
        if (r != 0) {
            return r;
        }
        if (sheets[sheet] == null) {
            return -11;
        }
        if (sorts[sheet] != sort) {
            return -13;
        }
        int n = 0;
        for (int i = 0; i < sheets[sheet].length; i += 2) {
            if (i + 1 == sheets[sheet].length) {
                return -12;
            }
            long slot = sheets[sheet][i];
            long size = sheets[sheet][i + 1];
            if (slot < 0 || slot > 11 || size < 0 || size > 1000000000) {
                continue;
            }
            if (size == 0) {
                erase(of, (int) slot);
                n++;
            } else if (write(of, (int) slot, (int) size) >= 0) {
                n++;
            }
        }
        return n;
    }

    long drawn(int seed, int n, int what) {
        if (n < 0 || n > 60 || what < 0 || what > 3) {
            return NO;
        }
        PlainPool p = copyOfKept();
        int z = seed;
        for (int i = 0; i < n; i++) {
            int[] xyw = new int[3];
            for (int j = 0; j < 3; j++) {
                z = z * 1103515245 + 12345;
                xyw[j] = (z >>> 9) % 24;
            }
            p.act(xyw[0], xyw[1], xyw[2]);
        }
        long[] all = {p.things.size(), p.blocks.size(), p.freed - freed, p.sizes(p.blocks.keySet())};
        return all[what];
    }

    private void act(int x, int y, int w) {
        switch (x) {
            case 0, 1, 2, 3, 4, 5, 6, 7 -> write(y % 20, w % 12, 1 + y);
            case 8, 9, 10 -> erase(y % 20, w % 12);
            case 11, 12, 13, 14 -> snap(y % 20, w / 20);
            case 15, 16, 17, 18 -> remove(y % 20);
            case 19, 20 -> fork(y % 20);
            case 21 -> promote(y % 20);
            case 22 -> rollback(y % 20);
            default -> files(NONE);
        }
    }

    int image() {
        image = copyOfKept();
        return things.size();
    }

    int back() {
        if (image == null) {
            return STATE;
        }
        PlainPool p = image.copyOfKept();
        things = p.things;
        blocks = p.blocks;
        time = p.time;
        freed = p.freed;
        return things.size();
    }

    int count(int what) {
        int[] all = {things.size(), blocks.size(), time, freed};
        return what < 0 || what > 3 ? BAD : all[what];
    }
}
