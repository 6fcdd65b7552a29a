/** The sentences under 'Terms', '==== 2' and '==== 3' that name a limit, each at it and on both sides of it. */
public final class TermsBoundsTest {
    private static final int NONE = Check.NONE, BAD = Check.BAD, STATE = Check.STATE, FULL = Check.FULL;
    private static final int ABSENT = Check.ABSENT, OUTSIDE = Check.OUTSIDE, OTHER = Check.OTHER;
    private static final long NO = Check.NO;
    private static final int BILLION = 1000000000;
    private static final Check CHECK = new Check("TermsBoundsTest");

    public static void main(String[] args) {
        blocksAtMost();
        leastNumberOfABlock();
        sizes();
        birth();
        thingsAtMost();
        leastNumberOfAThing();
        kinds();
        slots();
        quota();
        tags();
        longestChain();
        mostNext();
        owners();
        origin();
        freedExactlyThen();
        freedInAll();
        sumsBeyondInts();
        writtenAtFullBlocks();
        writtenAtQuota();
        erased();
        removedAlongAChain();
        sheetsAreMissingAtFirst();
        CHECK.end();
    }

    private static void due(String call, long got, long want) {
        CHECK.due(call, got, want);
    }

    /** "BLOCKS (96 at most, numbered 0 .. 95". */
    private static void blocksAtMost() {
        Edge before = new Edge(CHECK, x -> Samples.blocks(x, 95));
        before.moves("blocks: the 96th", x -> x.write(8, 0, 1), 95);
        before.does("blocks: number 95 is none such ahead of it", x -> x.block(95, 0), ABSENT);
        before.does("blocks: number 94 is the last", x -> x.block(94, 0), 95);
        Edge at = new Edge(CHECK, x -> Samples.blocks(x, 96));
        at.still("blocks: a 97th", x -> x.write(8, 0, 1), FULL);
        at.still("blocks: a 97th in a slot with one", x -> x.write(7, 11, 1), FULL);
        at.does("blocks: 96 are there", x -> x.count(1), 96);
        at.does("blocks: number 95", x -> x.block(95, 0), 96);
        at.still("blocks: number 96", x -> x.block(96, 0), OUTSIDE);
        at.still("blocks: number -1", x -> x.block(-1, 0), OUTSIDE);
        DeadListPool x = at.fresh();
        due("blocks: 95 again", x.erase(7, 11), 95);
        due("blocks: 95 again", x.count(1), 95);
        due("blocks: room for one", x.write(8, 0, 5), 95);
        due("blocks: and no more", x.write(8, 1, 5), FULL);
    }

    /** "a new one gets the least number that none has". */
    private static void leastNumberOfABlock() {
        DeadListPool x = new DeadListPool();
        Samples.blocks(x, 96);
        int[] away = {95, 0, 47, 12};
        for (int b : away) {
            due("least block: away", x.erase(b / 12, b % 12), b);
        }
        int[] taken = {0, 12, 47, 95};
        for (int i = 0; i < taken.length; i++) {
            due("least block", x.write(8, i, 7), taken[i]);
        }
        due("least block: none left", x.write(8, 4, 7), FULL);
        DeadListPool y = new DeadListPool();
        y.files(NONE);
        due("least block: the first", y.write(0, 0, 7), 0);
        due("least block: the one in the slot has its number still", y.write(0, 0, 7), 1);
        due("least block: then it has not", y.write(0, 0, 7), 0);
    }

    /** "a SIZE (1 .. 1000000000)". */
    private static void sizes() {
        Edge edge = new Edge(CHECK, x -> {
            x.files(NONE);
            x.write(0, 0, 5);
        });
        int[] bad = {0, -1, BILLION + 1, Integer.MIN_VALUE, Integer.MAX_VALUE};
        for (int size : bad) {
            edge.still("size " + size, x -> x.write(0, 0, size), BAD);
        }
        int[] fine = {1, 2, BILLION - 1, BILLION};
        for (int size : fine) {
            edge.moves("size " + size, x -> x.write(0, 0, size), 1);
            DeadListPool x = edge.fresh();
            x.write(0, 0, size);
            due("size " + size + " is kept", x.block(1, 0), size);
        }
    }

    /** "a BIRTH (TIME as it was written)". */
    private static void birth() {
        DeadListPool x = new DeadListPool();
        x.files(NONE);
        x.write(0, 0, 5);
        due("birth: at first", x.block(0, 1), 1);
        x.image();
        x.tick();
        x.write(0, 1, 5);
        due("birth: a tick later", x.block(1, 1), 2);
        x.snap(0, 0);
        x.write(0, 2, 5);
        due("birth: a snapshot later", x.block(2, 1), 3);
        due("birth: stays", x.block(0, 1), 1);
        x.back();
        x.write(0, 3, 5);
        due("birth: time laid back", x.block(1, 1), 1);
    }

    /** "THINGS (20 at most, numbered 0 .. 19". */
    private static void thingsAtMost() {
        Everything.Run nineteen = x -> {
            Samples.kinds(x);
            for (int of = 6; of < 19; of++) {
                x.files(NONE);
            }
        };
        Edge before = new Edge(CHECK, nineteen);
        before.moves("things: the 20th, files", x -> x.files(NONE), 19);
        before.moves("things: the 20th, bound", x -> x.files(3), 19);
        before.moves("things: the 20th, a snapshot", x -> x.snap(0, 0), 19);
        before.moves("things: the 20th, a bookmark", x -> x.mark(2), 19);
        before.moves("things: the 20th, a fork", x -> x.fork(2), 19);
        before.still("things: number 19 ahead of it", x -> x.told(19, 0), ABSENT);
        Edge at = new Edge(CHECK, Samples::twentyThings);
        at.still("things: a 21st, files", x -> x.files(NONE), FULL);
        at.still("things: a 21st, bound", x -> x.files(3), FULL);
        at.still("things: a 21st, a snapshot", x -> x.snap(0, 0), FULL);
        at.still("things: a 21st, a tagged one", x -> x.snap(0, 1), FULL);
        at.still("things: a 21st, a bookmark", x -> x.mark(2), FULL);
        at.still("things: a 21st, a fork", x -> x.fork(2), FULL);
        at.does("things: twenty", x -> x.count(0), 20);
        at.does("things: number 19", x -> x.told(19, 0), 0);
        at.still("things: number 20", x -> x.told(20, 0), OUTSIDE);
        at.still("things: number -1", x -> x.told(-1, 0), OUTSIDE);
        DeadListPool x = at.fresh();
        due("things: one away", x.remove(19), 0);
        due("things: room for one", x.snap(0, 0), 19);
        due("things: and no more", x.snap(0, 0), FULL);
    }

    /** "likewise": the least number that none has, for each call that makes a thing. */
    private static void leastNumberOfAThing() {
        Edge edge = new Edge(CHECK, x -> {
            Samples.twentyThings(x);
            x.remove(19);
            x.remove(8);
            x.remove(4);
            x.remove(13);
        });
        edge.does("least thing: files", x -> x.files(NONE), 4);
        edge.does("least thing: bound", x -> x.files(9), 4);
        edge.does("least thing: a snapshot", x -> x.snap(0, 0), 4);
        edge.does("least thing: a bookmark", x -> x.mark(2), 4);
        edge.does("least thing: a fork", x -> x.fork(2), 4);
        DeadListPool x = edge.fresh();
        int[] next = {4, 8, 13, 19};
        for (int of : next) {
            due("least thing", x.mark(3), of);
        }
        due("least thing: none left", x.mark(3), FULL);
    }

    /** "a KIND: 0 FILES, 1 BOUND under FILES, 2 SNAPSHOT, 3 TAGGED under SNAPSHOT, 4 BOOKMARK". */
    private static void kinds() {
        DeadListPool x = new DeadListPool();
        Samples.kinds(x);
        for (int of = 0; of < 5; of++) {
            due("kind", x.told(of, 0), of);
        }
        due("kind: a fork is FILES", x.told(5, 0), 0);
        due("kind: BOUND under FILES", x.taken(1, 0), 1);
        due("kind: FILES not under BOUND", x.taken(0, 1), OTHER);
        due("kind: TAGGED under SNAPSHOT", x.taken(3, 2), 2);
        due("kind: SNAPSHOT not under TAGGED", x.taken(2, 3), OTHER);
        due("kind: BOOKMARK not under SNAPSHOT", x.taken(4, 2), OTHER);
    }

    /** "have 12 SLOTS (from 0), each EMPTY or with a BLOCK". */
    private static void slots() {
        Edge edge = new Edge(CHECK, Samples::kinds);
        int[] bad = {-1, 12, Integer.MIN_VALUE, Integer.MAX_VALUE};
        for (int slot : bad) {
            edge.still("slot " + slot + " written", x -> x.write(0, slot, 1), BAD);
            edge.still("slot " + slot + " erased", x -> x.erase(0, slot), BAD);
            edge.still("slot " + slot + " asked", x -> x.slot(0, slot), BAD);
        }
        DeadListPool x = new DeadListPool();
        x.files(NONE);
        for (int slot = 0; slot < 12; slot++) {
            due("slot " + slot + " is empty", x.slot(0, slot), NONE);
        }
        for (int slot = 0; slot < 12; slot++) {
            due("slot " + slot + " written", x.write(0, slot, 1 + slot), slot);
        }
        for (int slot = 0; slot < 12; slot++) {
            due("slot " + slot + " has its own", x.slot(0, slot), slot);
        }
        due("slots: all twelve", x.told(0, 6), 12);
        due("slots: all twelve", x.space(0), 78);
    }

    /** "A BOUND one has a QUOTA (0 .. 1000000000)". */
    private static void quota() {
        Edge edge = new Edge(CHECK, Samples::kinds);
        int[] bad = {-2, BILLION + 1, Integer.MIN_VALUE, Integer.MAX_VALUE};
        for (int quota : bad) {
            edge.still("quota " + quota, x -> x.files(quota), BAD);
        }
        int[] fine = {0, 1, BILLION - 1, BILLION};
        for (int quota : fine) {
            DeadListPool x = edge.fresh();
            due("quota " + quota, x.files(quota), 6);
            due("quota " + quota + " is bound", x.told(6, 0), 1);
            due("quota " + quota + " is kept", x.told(6, 8), quota);
        }
        DeadListPool x = edge.fresh();
        due("quota NONE", x.files(NONE), 6);
        due("quota NONE is not bound", x.told(6, 0), 0);
        due("quota NONE is none", x.told(6, 8), NONE);
    }

    /** "A TAGGED one has TAGS (1 at first)"; v is 0 .. 9. */
    private static void tags() {
        Edge edge = new Edge(CHECK, Samples::kinds);
        edge.does("tags: 1 at first", x -> x.told(3, 7), 1);
        int[] bad = {-1, 10, Integer.MIN_VALUE, Integer.MAX_VALUE};
        for (int v : bad) {
            edge.still("tags " + v, x -> x.tag(3, v), BAD);
        }
        for (int v = 0; v <= 9; v++) {
            DeadListPool x = edge.fresh();
            due("tags " + v, x.tag(3, v), 1);
            due("tags " + v + " are kept", x.tag(3, 0), v);
        }
        edge.still("tags as they were", x -> x.tag(3, 1), 1);
    }

    /** "CHAIN of one: its PREV, the PREV of that, ..": none, one, and as long as 20 things let it be. */
    private static void longestChain() {
        DeadListPool x = new DeadListPool();
        x.files(NONE);
        due("chain: of none", x.deadList(0, 0), NO);
        due("chain: own none", x.told(0, 9), 0);
        x.snap(0, 0);
        due("chain: of one", x.deadList(0, 0), 0);
        due("chain: of one", x.deadList(0, 1), NO);
        for (int of = 2; of < 20; of++) {
            due("chain: a snapshot", x.snap(0, 0), of);
        }
        due("chain: own nineteen", x.told(0, 9), 19);
        due("chain: number 18", x.deadList(0, 18), 0);
        due("chain: number 19", x.deadList(0, 19), NO);
        due("chain: of a snapshot", x.deadList(19, 17), 0);
        due("chain: of a snapshot", x.deadList(19, 18), NO);
        due("chain: from end to end", x.range(1, 19), 0);
        due("chain: not the other way", x.range(19, 1), NO);
        for (int of = 2; of < 20; of++) {
            due("chain: prev", x.told(of, 2), of - 1);
        }
        due("chain: prev of the first", x.told(1, 2), NONE);
        due("chain: prev of files", x.told(0, 2), 19);
    }

    /** "NEXT of a SNAPSHOT: THINGS whose PREV it is": one, two, and as many as 20 things let there be. */
    private static void mostNext() {
        DeadListPool x = new DeadListPool();
        x.files(NONE);
        x.snap(0, 0);
        due("next: one", x.told(1, 5), 1);
        for (int of = 2; of < 20; of++) {
            due("next: a fork", x.fork(1), of);
            due("next", x.told(1, 5), of);
        }
        due("next: files have none", x.told(0, 5), 0);
        for (int of = 2; of < 19; of++) {
            due("next: two or more", x.remove(1), STATE);
            due("next: a fork away", x.remove(of), 0);
        }
        due("next: two", x.told(1, 5), 2);
        due("next: two", x.remove(1), STATE);
        due("next: the last fork away", x.remove(19), 0);
        due("next: one", x.told(1, 5), 1);
        due("next: one", x.remove(1), 0);
    }

    /** "A SNAPSHOT has an OWNER: FILES": also bound ones, and forks. */
    private static void owners() {
        DeadListPool x = new DeadListPool();
        Samples.kinds(x);
        due("owner: bound files snapped", x.snap(1, 0), 6);
        due("owner: a fork snapped", x.snap(5, 1), 7);
        due("owner: bound files", x.told(6, 3), 1);
        due("owner: a fork", x.told(7, 3), 5);
        due("owner: of files none", x.told(5, 3), NONE);
        due("owner: of a bookmark none", x.told(4, 3), NONE);
        due("owner: own ones", x.told(0, 9), 2);
        due("owner: own ones", x.told(1, 9), 1);
        due("owner: own ones", x.told(5, 9), 1);
        due("owner: own ones of a snapshot", x.told(2, 9), 0);
    }

    /** "ORIGIN of FILES: the first of its CHAIN that it doesn't own, or none". */
    private static void origin() {
        DeadListPool x = new DeadListPool();
        x.files(NONE);
        due("origin: no chain", x.told(0, 4), NONE);
        x.snap(0, 0);
        x.snap(0, 0);
        due("origin: all are own", x.told(0, 4), NONE);
        due("origin: fork", x.fork(2), 3);
        due("origin: none is own", x.told(3, 4), 2);
        x.snap(3, 0);
        due("origin: behind an own one", x.told(3, 4), 2);
        due("origin: of a snapshot none", x.told(4, 4), NONE);
        x.promote(3);
        due("origin: promoted", x.told(3, 4), NONE);
        due("origin: of the former owner", x.told(0, 4), 2);
        due("origin: own", x.told(3, 9), 3);
    }

    /** "A BLOCK that no THING HOLDS any more is FREED": with the last holder, not ahead of it. */
    private static void freedExactlyThen() {
        DeadListPool x = new DeadListPool();
        x.files(NONE);
        x.write(0, 0, 5);
        x.snap(0, 0);
        x.snap(0, 0);
        x.fork(1);
        due("freed: four hold it", x.block(0, 2), 4);
        due("freed: not by the first", x.erase(0, 0), 0);
        due("freed: three hold it", x.block(0, 2), 3);
        due("freed: not by the second", x.remove(2), 0);
        due("freed: not by the third", x.remove(3), 0);
        due("freed: one holds it", x.block(0, 2), 1);
        due("freed: none was", x.count(3), 0);
        due("freed: by the last", x.remove(1), 1);
        due("freed: it is there no more", x.block(0, 0), ABSENT);
        due("freed: one was", x.count(3), 1);
    }

    /** How many were FREED in all, by each call that lets go. */
    private static void freedInAll() {
        DeadListPool x = new DeadListPool();
        x.files(NONE);
        x.write(0, 0, 1);
        x.write(0, 0, 2);
        due("in all: written over", x.count(3), 1);
        x.erase(0, 0);
        due("in all: erased", x.count(3), 2);
        x.erase(0, 0);
        due("in all: erased when empty", x.count(3), 2);
        x.snap(0, 0);
        x.write(0, 1, 3);
        x.write(0, 2, 3);
        due("in all: rolled back", x.rollback(0), 2);
        due("in all: rolled back", x.count(3), 4);
        x.write(0, 1, 3);
        x.snap(0, 0);
        x.erase(0, 1);
        due("in all: a snapshot away", x.remove(2), 1);
        due("in all: a snapshot away", x.count(3), 5);
        x.write(0, 1, 3);
        x.snap(0, 0);
        x.erase(0, 1);
        due("in all: expired", x.expire(0, 0, 100), 2);
        due("in all: expired", x.count(3), 6);
        x.write(0, 1, 3);
        x.sheet(0, 0, 2);
        x.cell(0, 0, 1);
        due("in all: applied", x.apply(0, 0, 0), 1);
        due("in all: applied", x.count(3), 7);
        x.write(0, 3, 3);
        due("in all: files away", x.remove(0), 1);
        due("in all: files away", x.count(3), 8);
        x.drawn(3, 60, 2);
        due("in all: not what is drawn", x.count(3), 8);
    }

    /** "SIZES .., together" where together they are beyond an int: 96 blocks of the greatest size. */
    private static void sumsBeyondInts() {
        DeadListPool x = new DeadListPool();
        x.files(NONE);
        for (int i = 0; i < 8; i++) {
            for (int slot = 0; slot < 12; slot++) {
                x.write(0, slot, BILLION);
            }
            x.snap(0, 0);
            for (int slot = 0; slot < 12; slot++) {
                x.erase(0, slot);
            }
        }
        due("sums: space", x.space(1), 12L * BILLION);
        due("sums: alone", x.alone(8), 12L * BILLION);
        due("sums: range", x.range(1, 8), 96L * BILLION);
        due("sums: since", x.since(8, 7), 12L * BILLION);
        due("sums: common", x.common(8, 8), 12L * BILLION);
        due("sums: dead list", x.deadList(0, 0), 12L * BILLION);
        due("sums: most", x.most(0, 8), 96L * BILLION);
        due("sums: most of one fewer", x.most(0, 7), 84L * BILLION);
        due("sums: fewest", x.fewest(0, 96L * BILLION), 8);
        due("sums: fewest", x.fewest(0, 84L * BILLION), 7);
        due("sums: fewest", x.fewest(0, 96L * BILLION + 1), NONE);
        due("sums: drawn", x.drawn(0, 0, 3), 96L * BILLION);
        due("sums: removed", x.remove(1), 12);
    }

    /** "FULL, if 96 BLOCKS are there": whatever the slot has, and for bound ones too. */
    private static void writtenAtFullBlocks() {
        Edge edge = new Edge(CHECK, Samples::allBlocks);
        edge.still("written: an empty slot", x -> x.write(0, 5, 1), FULL);
        edge.still("written: a slot whose block would go", x -> x.write(0, 2, 1), FULL);
        edge.still("written: a slot whose block would stay", x -> x.write(0, 0, 1), FULL);
        edge.still("written: bound ones", x -> x.write(1, 0, 1), FULL);
        edge.still("written: bound ones above their quota", x -> x.write(1, 0, 101), FULL);
        DeadListPool x = edge.fresh();
        due("written: what a snapshot holds makes no room", x.erase(5, 0), 0);
        due("written: no room", x.write(0, 5, 1), FULL);
        due("written: what is freed makes room", x.erase(5, 11) >= 0 ? 1 : 0, 1);
        due("written: room", x.write(0, 5, 1) >= 0 ? 1 : 0, 1);
    }

    /** "or if, for a BOUND one, SPACE would be above its QUOTA then". */
    private static void writtenAtQuota() {
        Edge edge = new Edge(CHECK, Samples::kinds);
        edge.moves("quota: one below it", x -> x.write(1, 1, 59), 5);
        edge.moves("quota: at it", x -> x.write(1, 1, 60), 5);
        edge.still("quota: one above it", x -> x.write(1, 1, 61), FULL);
        edge.moves("quota: at it in the other's place", x -> x.write(1, 0, 100), 5);
        edge.still("quota: one above it in the other's place", x -> x.write(1, 0, 101), FULL);
        edge.still("quota: the greatest size", x -> x.write(1, 1, BILLION), FULL);
        edge.moves("quota: not for FILES", x -> x.write(0, 1, BILLION), 5);
        Edge zero = new Edge(CHECK, x -> x.files(0));
        zero.still("quota 0: the least size", x -> x.write(0, 0, 1), FULL);
        Edge most = new Edge(CHECK, x -> {
            x.files(BILLION);
            x.write(0, 0, BILLION - 1);
        });
        most.moves("greatest quota: at it", x -> x.write(0, 1, 1), 1);
        most.still("greatest quota: one above it", x -> x.write(0, 1, 2), FULL);
        most.still("greatest quota: far above it", x -> x.write(0, 1, BILLION), FULL);
        DeadListPool x = edge.fresh();
        due("quota: a snapshot's blocks are not theirs", x.snap(1, 0), 6);
        due("quota: written over", x.write(1, 0, 100), 5);
        due("quota: rolled back", x.rollback(1), 1);
        due("quota: as it was", x.write(1, 1, 61), FULL);
    }

    /** "ERASED: the SLOT is EMPTY": also one that is so already. */
    private static void erased() {
        Edge edge = new Edge(CHECK, Samples::kinds);
        edge.still("erased: an empty slot", x -> x.erase(0, 1), NONE);
        edge.still("erased: an empty slot", x -> x.erase(0, 11), NONE);
        edge.moves("erased: one that a snapshot holds", x -> x.erase(0, 0), 3);
        edge.moves("erased: one that none else holds", x -> x.erase(5, 11), 4);
    }

    /** "REMOVED: .. its one NEXT has its PREV for PREV": at both ends of a chain and within it. */
    private static void removedAlongAChain() {
        Edge edge = new Edge(CHECK, x -> Samples.chain(x, 3));
        DeadListPool oldest = edge.fresh();
        due("removed: the oldest", oldest.remove(1), 1);
        due("removed: its next has no prev", oldest.told(2, 2), NONE);
        due("removed: the others are as they were", oldest.told(3, 2), 2);
        DeadListPool middle = edge.fresh();
        due("removed: one within", middle.remove(2), 1);
        due("removed: its next has its prev", middle.told(3, 2), 1);
        due("removed: its prev has one next", middle.told(1, 5), 1);
        DeadListPool newest = edge.fresh();
        due("removed: the newest", newest.remove(3), 1);
        due("removed: files have its prev", newest.told(0, 2), 2);
        due("removed: twice", newest.remove(3), ABSENT);
        DeadListPool only = edge.fresh();
        only.remove(2);
        only.remove(3);
        due("removed: the last one", only.remove(1), 1);
        due("removed: files have no prev", only.told(0, 2), NONE);
        due("removed: then files go", only.remove(0), 0);
        due("removed: nothing is there", only.count(0), 0);
    }

    /** "SHEETS 0 .. 3 are rows of numbers, or missing (as all are at first)". */
    private static void sheetsAreMissingAtFirst() {
        Edge edge = new Edge(CHECK, x -> x.files(NONE));
        for (int sheet = 0; sheet < 4; sheet++) {
            int s = sheet;
            edge.still("missing: cell", x -> x.cell(s, 0, 1), ABSENT);
            edge.still("missing: item", x -> x.item(s, 0), NO);
            edge.still("missing: ints", x -> x.apply(0, s, 0), ABSENT);
            edge.still("missing: longs", x -> x.apply(0, s, 1), ABSENT);
        }
        edge.still("sheet 4", x -> x.sheet(4, 0, 1), BAD);
        edge.still("sheet -1", x -> x.sheet(-1, 0, 1), BAD);
    }
}
