/** Promises 32 to 35: acts by lot, images, counts. */
public final class LotTest {
    private static final int NONE = Check.NONE, BAD = Check.BAD, STATE = Check.STATE, ABSENT = Check.ABSENT;
    private static final long NO = Check.NO;
    private static final Check CHECK = new Check("LotTest");

    public static void main(String[] args) {
        drawnAsCalled();
        drawnInThought();
        drawnRefused();
        imageAndBack();
        imageKeepsAll();
        imageNotSheets();
        count();
        CHECK.end();
    }

    private static void due(String call, long got, long want) {
        CHECK.due(call, got, want);
    }

    private static DeadListPool sample() {
        DeadListPool x = new DeadListPool();
        for (int i = 0; i < 6; i++) {
            int of = x.files(i == 2 ? 20 : NONE);
            x.write(of, i, 3 + i);
            x.write(of, i + 1, 30 + i);
            x.snap(of, i % 2);
        }
        x.fork(1);
        x.erase(0, 0);
        return x;
    }

    /** What drawn tells of n acts must be what the same calls bring when they are made. */
    private static void drawnAsCalled() {
        for (int seed = -40; seed < 40; seed++) {
            DeadListPool x = sample();
            x.write(0, 0, 2);
            x.erase(0, 0);
            int n = (seed + 40) % 61;
            long[] told = new long[4];
            for (int what = 0; what < 4; what++) {
                told[what] = x.drawn(seed * 7919, n, what);
            }
            long[] called = Drawn.called(x, seed * 7919, n);
            due("32 things", told[0], called[0]);
            due("32 blocks", told[1], called[1]);
            due("32 freed", told[2], called[2]);
            due("32 sizes", told[3], called[3]);
        }
    }

    private static void drawnInThought() {
        DeadListPool x = sample();
        x.image();
        x.write(0, 9, 4);
        DeadListPool twin = sample();
        twin.write(0, 9, 4);
        for (int seed = 0; seed < 20; seed++) {
            x.drawn(seed, 60, seed % 4);
        }
        for (int of = 0; of < 20; of++) {
            for (int what = 0; what < 10; what++) {
                due("32 as it was", x.told(of, what), twin.told(of, what));
            }
        }
        for (int what = 0; what < 4; what++) {
            due("32 as it was", x.count(what), twin.count(what));
        }
        due("32 the image too", x.back(), 13);
        due("32 the image too", x.slot(0, 9), NONE);
    }

    private static void drawnRefused() {
        DeadListPool x = sample();
        due("32 n", x.drawn(1, -1, 0), NO);
        due("32 n", x.drawn(1, 61, 0), NO);
        due("32 what", x.drawn(1, 0, -1), NO);
        due("32 what", x.drawn(1, 0, 4), NO);
        due("32 none", x.drawn(1, 0, 0), 13);
        due("32 none", x.drawn(1, 0, 1), 11);
        due("32 none", x.drawn(1, 0, 2), 0);
        x.write(0, 8, 1000000000);
        x.write(0, 9, 1000000000);
        x.write(0, 10, 1000000000);
        due("32 beyond an int", x.drawn(1, 0, 3), 3000000000L + 3 + 30 + 4 + 31 + 5 + 6 + 33 + 7 + 34 + 8 + 35);
        due("32 an extreme seed", new DeadListPool().drawn(Integer.MIN_VALUE, 0, 0), 0);
    }

    private static void imageAndBack() {
        DeadListPool x = new DeadListPool();
        due("34 none", x.back(), STATE);
        due("33 of nothing", x.image(), 0);
        x.files(NONE);
        x.write(0, 0, 5);
        x.tick();
        due("34 nothing", x.back(), 0);
        due("34 things", x.count(0), 0);
        due("34 blocks", x.count(1), 0);
        due("34 time", x.count(2), 1);
        x.files(NONE);
        x.write(0, 0, 5);
        x.write(0, 0, 6);
        due("33 in the other's place", x.image(), 1);
        x.files(NONE);
        x.erase(0, 0);
        due("34 back", x.back(), 1);
        due("34 block", x.block(1, 0), 6);
        due("34 freed", x.count(3), 1);
        x.remove(0);
        due("34 again", x.back(), 1);
        due("34 slot", x.slot(0, 0), 1);
        due("34 freed", x.count(3), 1);
    }

    private static void imageKeepsAll() {
        DeadListPool x = sample();
        DeadListPool twin = sample();
        x.tag(9, 4);
        twin.tag(9, 4);
        x.files(77);
        twin.files(77);
        due("33", x.image(), 14);
        x.remove(13);
        x.files(78);
        x.promote(12);
        x.write(12, 0, 9);
        x.snap(2, 0);
        x.rollback(12);
        x.erase(12, 1);
        x.tag(9, 0);
        x.expire(1, 0, 100);
        x.mark(3);
        x.remove(3);
        x.tick();
        due("34", x.back(), 14);
        for (int of = 0; of < 20; of++) {
            for (int what = 0; what < 10; what++) {
                due("34 told", x.told(of, what), twin.told(of, what));
            }
            for (int slot = 0; slot < 12; slot++) {
                due("34 slot", x.slot(of, slot), twin.slot(of, slot));
            }
        }
        for (int b = 0; b < 96; b++) {
            for (int what = 0; what < 3; what++) {
                due("34 block", x.block(b, what), twin.block(b, what));
            }
        }
        for (int what = 0; what < 4; what++) {
            due("34 count", x.count(what), twin.count(what));
        }
    }

    private static void imageNotSheets() {
        DeadListPool x = new DeadListPool();
        x.sheet(0, 1, 2);
        x.cell(0, 0, 5);
        x.image();
        x.cell(0, 0, 6);
        x.sheet(1, 0, 1);
        x.back();
        due("34 sheets stay", x.item(0, 0), 6);
        due("34 sheets stay", x.item(1, 0), 0);
    }

    private static void count() {
        DeadListPool x = sample();
        due("35 what", x.count(-1), BAD);
        due("35 what", x.count(4), BAD);
        due("35 what", x.count(Integer.MAX_VALUE), BAD);
        due("35 things", x.count(0), 13);
        due("35 blocks", x.count(1), 11);
        due("35 time", x.count(2), 7);
        due("35 freed", x.count(3), 0);
        due("35 absent still", x.told(13, 0), ABSENT);
        x.write(0, 0, 1);
        x.erase(0, 0);
        due("35 freed", x.count(3), 1);
    }
}
