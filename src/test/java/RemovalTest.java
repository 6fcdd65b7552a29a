/** Promises 24 to 26: what to remove. */
public final class RemovalTest {
    private static final int NONE = Check.NONE, BAD = Check.BAD;
    private static final int ABSENT = Check.ABSENT, OUTSIDE = Check.OUTSIDE, OTHER = Check.OTHER;
    private static final long NO = Check.NO;
    private static final int BILLION = 1000000000;
    private static final Check CHECK = new Check("RemovalTest");

    public static void main(String[] args) {
        mostOfSpans();
        mostOfLooseOnes();
        mostOfEightNewest();
        mostRefused();
        fewest();
        fewestBeyondInts();
        expire();
        expireOnlyLooseOnes();
        expireOnlyOwnOnes();
        expireRefused();
        CHECK.end();
    }

    private static void due(String call, long got, long want) {
        CHECK.due(call, got, want);
    }

    /** Files 0, snapshots 1 .. 3: 1 alone holds 10, 1 and 2 hold 100, 2 and 3 hold 5, all three hold 1000. */
    private static DeadListPool spans() {
        DeadListPool x = new DeadListPool();
        x.files(NONE);
        x.write(0, 0, 10);
        x.write(0, 1, 100);
        x.write(0, 2, 1000);
        x.snap(0, 0);
        x.erase(0, 0);
        x.write(0, 3, 5);
        x.snap(0, 0);
        x.erase(0, 1);
        x.snap(0, 0);
        x.erase(0, 2);
        x.erase(0, 3);
        return x;
    }

    private static void mostOfSpans() {
        DeadListPool x = spans();
        due("24 none", x.most(0, 0), 0);
        due("24 one", x.most(0, 1), 10);
        due("24 two", x.most(0, 2), 110);
        due("24 three", x.most(0, 3), 1115);
        due("24 more than there are", x.most(0, 8), 1115);
        due("24 nothing is removed", x.count(0), 4);
        due("24 nothing is freed", x.count(3), 0);
        x.write(0, 4, 7);
        due("24 what files hold stays", x.most(0, 3), 1115);
        due("24 after a removal", x.remove(1), 1);
        due("24 after a removal", x.most(0, 1), 100);
        due("24 no own ones", x.most(x.fork(3), 8), 0);
    }

    private static void mostOfLooseOnes() {
        DeadListPool x = spans();
        due("24 fork", x.fork(2), 4);
        due("24 a forked one stays", x.most(0, 3), 10);
        x.snap(0, 1);
        x.snap(0, 0);
        due("24 fork removed", x.remove(4), 0);
        due("24 loose again", x.most(0, 8), 1115);
        DeadListPool y = new DeadListPool();
        y.files(NONE);
        y.write(0, 0, 9);
        y.snap(0, 1);
        y.erase(0, 0);
        due("24 tags", y.most(0, 8), 0);
        y.tag(1, 0);
        due("24 no tags", y.most(0, 8), 9);
    }

    private static void mostOfEightNewest() {
        DeadListPool x = new DeadListPool();
        x.files(NONE);
        for (int i = 0; i < 10; i++) {
            x.write(0, 0, 100 - i);
            x.snap(0, 0);
        }
        x.erase(0, 0);
        due("24 the two oldest don't count", x.most(0, 1), 98);
        due("24 all eight", x.most(0, 8), 98 + 97 + 96 + 95 + 94 + 93 + 92 + 91);
        due("25 the two oldest don't count", x.fewest(0, 99), 2);
        due("25 all eight", x.fewest(0, 756), 8);
        due("25 too much", x.fewest(0, 757), NONE);
        x.fork(5);
        due("24 an unfit one isn't made up for", x.most(0, 8), 756 - 96);
    }

    private static void mostRefused() {
        DeadListPool x = spans();
        x.mark(1);
        due("24 n", x.most(0, -1), NO);
        due("24 n", x.most(0, 9), NO);
        due("24 snapshot", x.most(1, 1), NO);
        due("24 bookmark", x.most(4, 1), NO);
        due("24 absent", x.most(9, 1), NO);
        due("24 outside", x.most(20, 1), NO);
        due("24 outside", x.most(-1, 1), NO);
    }

    private static void fewest() {
        DeadListPool x = spans();
        x.mark(1);
        due("25 nothing asked", x.fewest(0, 0), 0);
        due("25 less than nothing", x.fewest(0, Long.MIN_VALUE), 0);
        due("25 one", x.fewest(0, 10), 1);
        due("25 two", x.fewest(0, 11), 2);
        due("25 two", x.fewest(0, 110), 2);
        due("25 three", x.fewest(0, 111), 3);
        due("25 three", x.fewest(0, 1115), 3);
        due("25 too much", x.fewest(0, 1116), NONE);
        due("25 far too much", x.fewest(0, Long.MAX_VALUE), NONE);
        due("25 snapshot", x.fewest(1, 1), OTHER);
        due("25 bookmark", x.fewest(4, 1), OTHER);
        due("25 absent", x.fewest(9, 1), ABSENT);
        due("25 outside", x.fewest(20, 1), OUTSIDE);
        due("25 asked ahead of nothing", x.fewest(-1, 0), OUTSIDE);
        due("25 asked ahead of nothing", x.fewest(1, -5), OTHER);
        due("25 bound", x.fewest(x.files(3), 1), NONE);
    }

    private static void fewestBeyondInts() {
        DeadListPool x = new DeadListPool();
        x.files(NONE);
        for (int slot = 0; slot < 12; slot++) {
            x.write(0, slot, BILLION);
        }
        x.snap(0, 0);
        for (int slot = 0; slot < 12; slot++) {
            x.erase(0, slot);
        }
        due("24 beyond an int", x.most(0, 1), 12000000000L);
        due("25 beyond an int", x.fewest(0, 12000000000L), 1);
        due("25 beyond an int", x.fewest(0, 12000000001L), NONE);
    }

    private static DeadListPool tenSnapshots() {
        DeadListPool x = new DeadListPool();
        x.files(NONE);
        for (int i = 0; i < 10; i++) {
            x.write(0, i, 1 + i);
            x.snap(0, 0);
            x.erase(0, i);
        }
        return x;
    }

    private static void expire() {
        DeadListPool x = tenSnapshots();
        x.image();
        due("26 every divides all", x.expire(0, 0, 1), 0);
        due("26 as many as there are", x.expire(0, 10, 100), 0);
        due("26 more than there are", x.expire(0, 20, 100), 0);
        due("26 all but the newest", x.expire(0, 9, 100), 1);
        due("26 the oldest went", x.told(1, 0), ABSENT);
        due("26 freed", x.count(3), 1);
        due("26 every third stays", x.expire(0, 2, 3), 5);
        int[] stay = {3, 6, 9, 10};
        due("26 so many stay", x.told(0, 9), stay.length);
        for (int of : stay) {
            due("26 stays", x.told(of, 0), 2);
        }
        due("26 chain", x.told(9, 2), 6);
        due("26 chain", x.told(6, 2), 3);
        due("26 chain", x.told(3, 2), NONE);
        due("26 all", x.expire(0, 0, 100), 4);
        due("26 nothing left", x.count(1), 0);
        due("26 freed", x.count(3), 10);
        x.back();
        due("26 at a go", x.expire(0, 0, 100), 10);
    }

    private static void expireOnlyLooseOnes() {
        DeadListPool x = tenSnapshots();
        x.fork(4);
        x.snap(0, 1);
        due("26 forked and tagged ones stay", x.expire(0, 0, 100), 9);
        due("26 forked one", x.told(4, 5), 2);
        due("26 tagged one", x.told(12, 2), 4);
        due("26 of a fork", x.expire(11, 0, 100), 0);
    }

    private static void expireOnlyOwnOnes() {
        DeadListPool x = tenSnapshots();
        x.fork(6);
        x.promote(11);
        x.remove(0);
        due("26 the later ones have an owner still", x.told(0, 9), 4);
        due("26 own ones", x.expire(0, 0, 100), 4);
        due("26 promoted ones", x.told(11, 9), 6);
        due("26 all but the forked one", x.expire(11, 0, 100), 5);
        due("26 the forked one", x.told(6, 5), 2);
    }

    private static void expireRefused() {
        DeadListPool x = tenSnapshots();
        x.mark(1);
        due("26 newest", x.expire(0, -1, 100), BAD);
        due("26 newest", x.expire(0, 21, 100), BAD);
        due("26 every", x.expire(0, 0, 0), BAD);
        due("26 every", x.expire(0, 0, -1), BAD);
        due("26 every", x.expire(0, 0, 101), BAD);
        due("26 bad ahead of asked", x.expire(20, 0, 0), BAD);
        due("26 outside", x.expire(20, 0, 1), OUTSIDE);
        due("26 outside", x.expire(-1, 0, 1), OUTSIDE);
        due("26 absent", x.expire(19, 0, 1), ABSENT);
        due("26 snapshot", x.expire(1, 0, 1), OTHER);
        due("26 bookmark", x.expire(11, 0, 1), OTHER);
        due("26 nothing changed", x.count(0), 12);
    }
}
