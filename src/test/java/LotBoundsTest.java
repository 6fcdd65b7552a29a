/** Promises 32 to 35 at the edges that their words name: each sentence has a test of its own. */
public final class LotBoundsTest {
    private static final int NONE = Check.NONE, BAD = Check.BAD, STATE = Check.STATE, FULL = Check.FULL;
    private static final int ABSENT = Check.ABSENT;
    private static final long NO = Check.NO;
    private static final int FACES = 24;
    private static final Check CHECK = new Check("LotBoundsTest");

    public static void main(String[] args) {
        drawnNumbers();
        drawnWhats();
        drawnOfNone();
        drawnFaces();
        drawnOneByOne();
        drawnSeeds();
        drawnInAFullPool();
        drawnInThought();
        drawnFreed();
        noImage();
        imageOfNoneAndOfAll();
        imageAnew();
        backTwice();
        backAfterARefusal();
        backLaysTimeAndFreed();
        backLaysKinds();
        backNotSheets();
        counts();
        CHECK.end();
    }

    private static void due(String call, long got, long want) {
        CHECK.due(call, got, want);
    }

    private static Edge kinds() {
        return new Edge(CHECK, Samples::kinds);
    }

    /** "n (0 .. 60) acts", "NO: n". */
    private static void drawnNumbers() {
        Edge edge = kinds();
        for (int what = 0; what < 4; what++) {
            int w = what;
            edge.still("32 n -1", x -> x.drawn(5, -1, w), NO);
            edge.still("32 n 61", x -> x.drawn(5, 61, w), NO);
            edge.still("32 least n", x -> x.drawn(5, Integer.MIN_VALUE, w), NO);
            edge.still("32 greatest n", x -> x.drawn(5, Integer.MAX_VALUE, w), NO);
            int[] fine = {0, 1, 59, 60};
            for (int n : fine) {
                edge.still("32 n " + n, x -> x.drawn(5, n, w), Drawn.called(edge.fresh(), 5, n)[w]);
            }
        }
    }

    /** "NO: .. what." */
    private static void drawnWhats() {
        Edge edge = kinds();
        int[] bad = {-1, 4, Integer.MIN_VALUE, Integer.MAX_VALUE};
        for (int what : bad) {
            edge.still("32 what " + what, x -> x.drawn(5, 0, what), NO);
            edge.still("32 what " + what, x -> x.drawn(5, 60, what), NO);
        }
    }

    /** No act: things, blocks and sizes as they are, none freed. */
    private static void drawnOfNone() {
        Edge edge = kinds();
        edge.still("32 things", x -> x.drawn(5, 0, 0), 6);
        edge.still("32 blocks", x -> x.drawn(5, 0, 1), 6);
        edge.still("32 none is freed by it", x -> x.drawn(5, 0, 2), 0);
        edge.does("32 though one was", x -> x.count(3), 1);
        edge.still("32 sizes", x -> x.drawn(5, 0, 3), 3 + 5 + 40 + 7 + 9 + 12);
    }

    /** A seed whose first act has these faces, or NONE. */
    private static int seedOf(int a, int y, int w, int from) {
        for (int seed = from; seed < from + 2000000; seed++) {
            int z1 = Drawn.next(seed);
            int z2 = Drawn.next(z1);
            if (Drawn.face(z1) == a && Drawn.face(z2) == y && Drawn.face(Drawn.next(z2)) == w) {
                return seed;
            }
        }
        return NONE;
    }

    /**
     * "x 0 .. 7: write ..; 8 .. 10: erase ..; 11 .. 14: snap ..; 15 .. 18: remove ..; 19, 20: fork ..; 21:
     * promote ..; 22: rollback ..; 23: files(NONE)": each x, with each y and with w at its ends.
     */
    private static void drawnFaces() {
        int[] ends = {0, 11, 12, 19, 20, 23};
        int found = 0;
        for (int a = 0; a < FACES; a++) {
            for (int y = 0; y < FACES; y++) {
                for (int w : ends) {
                    int seed = seedOf(a, y, w, 1000 * a);
                    if (seed != NONE) {
                        found++;
                        faces(seed, a, y, w);
                    }
                }
            }
        }
        due("32 a seed for each", found, FACES * FACES * ends.length);
    }

    private static void faces(int seed, int a, int y, int w) {
        DeadListPool x = rich();
        long[] called = Drawn.called(rich(), seed, 1);
        String name = "32 act " + a + " " + y + " " + w;
        for (int what = 0; what < 4; what++) {
            due(name + ", what " + what, x.drawn(seed, 1, what), called[what]);
        }
    }

    /** Things of all kinds at the numbers that y % 20 reaches from both sides: 0 .. 3 and 19. */
    private static DeadListPool rich() {
        DeadListPool x = new DeadListPool();
        x.files(NONE);
        x.files(60);
        x.write(0, 0, 31);
        x.write(0, 11, 32);
        x.write(1, 0, 33);
        x.snap(0, 0);
        x.snap(1, 1);
        x.erase(0, 0);
        x.write(0, 0, 34);
        x.mark(2);
        x.fork(3);
        x.write(5, 11, 35);
        for (int of = 6; of < 20; of++) {
            x.files(NONE);
        }
        x.write(18, 0, 36);
        x.write(19, 11, 37);
        x.remove(8);
        x.remove(12);
        return x;
    }

    /** n acts are the first n of n + 1. */
    private static void drawnOneByOne() {
        for (int n = 0; n <= 60; n++) {
            DeadListPool x = kindsPool();
            long[] told = new long[4];
            for (int what = 0; what < 4; what++) {
                told[what] = x.drawn(-99, n, what);
            }
            long[] called = Drawn.called(kindsPool(), -99, n);
            for (int what = 0; what < 4; what++) {
                due("32 " + n + " acts, what " + what, told[what], called[what]);
            }
        }
    }

    private static DeadListPool kindsPool() {
        DeadListPool x = new DeadListPool();
        Samples.kinds(x);
        return x;
    }

    /** "z being the last one * 1103515245 + 12345, an int (SEED at first)": it wraps around. */
    private static void drawnSeeds() {
        int[] seeds = {0, 1, -1, 2, Integer.MAX_VALUE, Integer.MAX_VALUE - 1, Integer.MIN_VALUE, Integer.MIN_VALUE + 1,
            1 << 9, (1 << 9) - 1, -(1 << 9), 1103515245, -1103515245, 12345, -12345};
        for (int seed : seeds) {
            long[] called = Drawn.called(kindsPool(), seed, 60);
            for (int what = 0; what < 4; what++) {
                due("32 seed " + seed + ", what " + what, kindsPool().drawn(seed, 60, what), called[what]);
            }
        }
    }

    /** "these calls, whatever they answer": FULL ones too. */
    private static void drawnInAFullPool() {
        for (int seed = 0; seed < 40; seed++) {
            DeadListPool things = new DeadListPool();
            Samples.twentyThings(things);
            DeadListPool blocks = new DeadListPool();
            Samples.allBlocks(blocks);
            for (int what = 0; what < 4; what++) {
                DeadListPool calledThings = new DeadListPool();
                Samples.twentyThings(calledThings);
                due("32 twenty things", things.drawn(seed, 60, what), Drawn.called(calledThings, seed, 60)[what]);
                DeadListPool calledBlocks = new DeadListPool();
                Samples.allBlocks(calledBlocks);
                due("32 96 blocks", blocks.drawn(seed, 60, what), Drawn.called(calledBlocks, seed, 60)[what]);
            }
        }
    }

    /** "in thought": nothing is changed, the image neither. */
    private static void drawnInThought() {
        Edge some = kinds();
        Edge none = new Edge(CHECK, Samples::nothing);
        for (int seed = 0; seed < 10; seed++) {
            int s = seed;
            some.still("32 in thought", x -> x.drawn(s, 60, 0), some.fresh().drawn(s, 60, 0));
            none.still("32 in thought", x -> x.drawn(s, 60, 0), none.fresh().drawn(s, 60, 0));
        }
    }

    /** "how many were FREED by it (2)": not those that were ahead of it. */
    private static void drawnFreed() {
        DeadListPool x = new DeadListPool();
        x.files(NONE);
        for (int i = 0; i < 9; i++) {
            x.write(0, 0, 1);
        }
        due("32 freed ahead", x.count(3), 8);
        int erases = seedOf(8, 0, 0, 0);
        due("32 one erased", x.drawn(erases, 1, 2), 1);
        int writes = seedOf(0, 0, 0, 0);
        due("32 one written over", x.drawn(writes, 1, 2), 1);
        int removes = seedOf(15, 0, 0, 0);
        due("32 files away", x.drawn(removes, 1, 2), 1);
        int makes = seedOf(23, 0, 0, 0);
        due("32 files made", x.drawn(makes, 1, 2), 0);
        due("32 files made", x.drawn(makes, 1, 0), 2);
    }

    /** "STATE: there is none." */
    private static void noImage() {
        Edge edge = new Edge(CHECK, x -> {
            x.files(NONE);
            x.write(0, 0, 5);
            x.sheet(0, 0, 1);
        });
        edge.still("34 none", x -> x.back(), STATE);
        DeadListPool x = edge.fresh();
        x.drawn(1, 60, 0);
        due("34 none though drawn", x.back(), STATE);
        x.image();
        due("34 one", x.back(), 1);
    }

    /** "AN IMAGE is kept: how many THINGS": 0, 1, 20. */
    private static void imageOfNoneAndOfAll() {
        DeadListPool x = new DeadListPool();
        due("33 none", x.image(), 0);
        x.files(NONE);
        due("33 one, not yet kept", x.back(), 0);
        due("34 none is there", x.told(0, 0), ABSENT);
        x.files(NONE);
        due("33 one", x.image(), 1);
        DeadListPool y = new DeadListPool();
        Samples.twentyThings(y);
        due("33 twenty", y.image(), 20);
        y.remove(19);
        due("34 twenty", y.back(), 20);
        due("34 full again", y.files(NONE), FULL);
        DeadListPool z = new DeadListPool();
        Samples.allBlocks(z);
        z.image();
        z.remove(13);
        due("34 back", z.back(), 14);
        due("34 96 blocks", z.count(1), 96);
        due("34 full again", z.write(0, 7, 1), FULL);
    }

    /** A newer image takes the place of the older one. */
    private static void imageAnew() {
        DeadListPool x = new DeadListPool();
        x.files(NONE);
        due("33 the first", x.image(), 1);
        x.files(NONE);
        due("33 the second", x.image(), 2);
        x.files(NONE);
        due("34 the second", x.back(), 2);
        due("34 again the second", x.back(), 2);
        kinds().moves("33 it changes what back brings", y -> y.image(), 6);
    }

    /** The image stays as it is, whatever comes behind it. */
    private static void backTwice() {
        DeadListPool x = kindsPool();
        due("34 once", x.back(), 6);
        x.write(0, 2, 99);
        x.remove(4);
        x.tag(3, 5);
        x.tick();
        due("34 twice", x.back(), 6);
        due("34 slot", x.slot(0, 2), NONE);
        due("34 bookmark", x.told(4, 0), 4);
        due("34 tags", x.told(3, 7), 1);
        due("34 time", x.count(2), 3);
        Edge once = new Edge(CHECK, y -> {
            Samples.kinds(y);
            y.back();
        });
        once.still("34 at once again", y -> y.back(), 6);
        once.still("33 an image of the same", y -> y.image(), 6);
    }

    private static void backAfterARefusal() {
        DeadListPool x = new DeadListPool();
        x.files(NONE);
        due("34 none", x.back(), STATE);
        due("34 none still", x.back(), STATE);
        due("33", x.image(), 1);
        due("34", x.back(), 1);
    }

    /** "TIME, how many were FREED in all". */
    private static void backLaysTimeAndFreed() {
        DeadListPool x = new DeadListPool();
        x.files(NONE);
        x.write(0, 0, 1);
        x.write(0, 0, 2);
        x.tick();
        x.image();
        x.write(0, 0, 3);
        x.erase(0, 0);
        x.tick();
        x.snap(0, 0);
        due("34 freed ahead of it", x.count(3), 3);
        due("34 time ahead of it", x.count(2), 4);
        x.back();
        due("34 freed", x.count(3), 1);
        due("34 time", x.count(2), 2);
        due("34 block", x.block(1, 0), 2);
        due("34 birth", x.block(1, 1), 1);
        due("34 the snapshot is gone", x.told(1, 0), ABSENT);
        due("34 the next tick", x.tick(), 3);
    }

    /** "all THINGS": kinds, quotas, tags, owners, chains. */
    private static void backLaysKinds() {
        DeadListPool x = kindsPool();
        x.image();
        long[] before = new long[200];
        for (int i = 0; i < 200; i++) {
            before[i] = x.told(i / 10, i % 10);
        }
        x.promote(5);
        x.tag(3, 0);
        x.remove(3);
        x.remove(1);
        x.files(7);
        x.snap(5, 1);
        x.rollback(0);
        x.back();
        for (int i = 0; i < 200; i++) {
            due("34 told(" + i / 10 + ", " + i % 10 + ")", x.told(i / 10, i % 10), before[i]);
        }
    }

    /** "(not SHEETS)". */
    private static void backNotSheets() {
        DeadListPool x = kindsPool();
        x.image();
        x.cell(0, 0, 55);
        x.sheet(1, -1, 0);
        x.sheet(2, 1, 3);
        x.sheet(3, 0, 40);
        x.back();
        due("34 a cell", x.item(0, 0), 55);
        due("34 one that is missing now", x.cell(1, 0, 1), ABSENT);
        due("34 one that is longer now", x.item(2, 2), 0);
        due("34 one that was missing", x.item(3, 39), 0);
    }

    /** "0 THINGS, 1 BLOCKS, 2 TIME, 3 BLOCKS that were FREED in all. BAD." */
    private static void counts() {
        Edge edge = kinds();
        edge.still("35 things", x -> x.count(0), 6);
        edge.still("35 blocks", x -> x.count(1), 6);
        edge.still("35 time", x -> x.count(2), 4);
        edge.still("35 freed", x -> x.count(3), 1);
        int[] bad = {-1, 4, Integer.MIN_VALUE, Integer.MAX_VALUE};
        for (int what : bad) {
            edge.still("35 what " + what, x -> x.count(what), BAD);
        }
        new Edge(CHECK, Samples::twentyThings).still("35 twenty", x -> x.count(0), 20);
        new Edge(CHECK, Samples::allBlocks).still("35 ninety-six", x -> x.count(1), 96);
        new Edge(CHECK, Samples::nothing).still("35 at first", x -> x.count(2), 1);
    }
}
