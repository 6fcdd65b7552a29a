/** Runs of calls that tests of edges begin with. */
final class Samples {
    static final int NO_THING = -1;

    private Samples() {
    }

    static void nothing(DeadListPool x) {
        x.count(0);
    }

    /**
     * A thing of each kind: FILES 0, BOUND 1 (quota 100), SNAPSHOT 2 and TAGGED 3 of 0, BOOKMARK 4 of 2,
     * and 5, a fork of 2. Sheet 0 has ints, 1 longs, 2 is a row of none, 3 is missing. The image is older.
     */
    static void kinds(DeadListPool x) {
        x.files(-1);
        x.files(100);
        x.write(0, 0, 3);
        x.write(0, 1, 5);
        x.write(1, 0, 40);
        x.snap(0, 0);
        x.write(0, 0, 7);
        x.snap(0, 1);
        x.mark(2);
        x.fork(2);
        x.write(5, 11, 9);
        x.image();
        x.write(0, 2, 11);
        x.write(0, 2, 12);
        x.erase(0, 1);
        x.tick();
        sheets(x);
    }

    private static void sheets(DeadListPool x) {
        long[] ints = {3, 20, 12, 1};
        long[] longs = {4, 4294967297L, 5, 6};
        x.sheet(0, 0, ints.length);
        x.sheet(1, 1, longs.length);
        for (int i = 0; i < ints.length; i++) {
            x.cell(0, i, ints[i]);
            x.cell(1, i, longs[i]);
        }
        x.sheet(2, 0, 0);
    }

    /** The kind of each number in kinds(), or NO_THING. */
    static int[] kindsThere() {
        int[] row = {0, 1, 2, 3, 4, 0, NO_THING, NO_THING, NO_THING, NO_THING, NO_THING, NO_THING, NO_THING, NO_THING,
            NO_THING, NO_THING, NO_THING, NO_THING, NO_THING, NO_THING};
        return row;
    }

    /** As kinds(), with FILES for all other numbers: no room for one thing more. */
    static void twentyThings(DeadListPool x) {
        kinds(x);
        for (int of = 6; of < 20; of++) {
            x.files(-1);
        }
    }

    static int[] twentyKinds() {
        int[] row = kindsThere();
        for (int of = 6; of < 20; of++) {
            row[of] = 0;
        }
        return row;
    }

    /** As kinds(), with FILES 6 .. 13 whose blocks leave no room for one block more. */
    static void allBlocks(DeadListPool x) {
        kinds(x);
        for (int of = 6; of < 14; of++) {
            x.files(-1);
        }
        for (int i = x.count(1); i < 96; i++) {
            x.write(6 + i / 12, i % 12, 1 + i);
        }
    }

    static int[] allBlocksKinds() {
        int[] row = kindsThere();
        for (int of = 6; of < 14; of++) {
            row[of] = 0;
        }
        return row;
    }

    /** Files 0 .. 8; 0 .. 7 hold blocks 0 .. n - 1 by number, 12 each, of sizes 1 + number. */
    static void blocks(DeadListPool x, int n) {
        for (int of = 0; of < 9; of++) {
            x.files(-1);
        }
        for (int b = 0; b < n; b++) {
            x.write(b / 12, b % 12, 1 + b);
        }
    }

    /** Files 0 with n snapshots 1 .. n, MADE 1 .. n; snapshot i alone holds a block of size 100 + i. */
    static void chain(DeadListPool x, int n) {
        x.files(-1);
        for (int i = 1; i <= n; i++) {
            x.write(0, i % 12, 100 + i);
            x.snap(0, 0);
            x.erase(0, i % 12);
        }
    }
}
