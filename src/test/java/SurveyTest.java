/** Promises 13 to 23: what there is. */
public final class SurveyTest {
    private static final int NONE = Check.NONE, BAD = Check.BAD;
    private static final int ABSENT = Check.ABSENT, OUTSIDE = Check.OUTSIDE, OTHER = Check.OTHER;
    private static final long NO = Check.NO;
    private static final int BILLION = 1000000000;
    private static final Check CHECK = new Check("SurveyTest");

    public static void main(String[] args) {
        told();
        slot();
        block();
        taken();
        dead();
        deadList();
        space();
        alone();
        range();
        since();
        common();
        CHECK.end();
    }

    private static void due(String call, long got, long want) {
        CHECK.due(call, got, want);
    }

    /**
     * Files 0 with snapshots 1, 2 (tagged), 3; bookmark 4 of 2; fork 5 of 2; bound files 6. Blocks, by
     * birth: 0 (size 1), 1 (2), 2 (4) at 1; 3 (8) at 2; 4 (16), 5 (32) at 3; 6 (64), 7 (128) at 4.
     */
    private static DeadListPool sample() {
        DeadListPool x = new DeadListPool();
        x.files(NONE);
        x.write(0, 0, 1);
        x.write(0, 1, 2);
        x.write(0, 2, 4);
        x.snap(0, 0);
        x.write(0, 0, 8);
        x.snap(0, 1);
        x.write(0, 1, 16);
        x.write(0, 3, 32);
        x.snap(0, 0);
        x.mark(2);
        x.fork(2);
        x.files(300);
        x.erase(0, 0);
        x.erase(0, 2);
        x.erase(0, 3);
        x.write(5, 2, 64);
        x.write(5, 11, 128);
        return x;
    }

    private static void row(String name, DeadListPool x, int of, int... want) {
        for (int what = 0; what < want.length; what++) {
            due(name + " " + what, x.told(of, what), want[what]);
        }
    }

    private static void told() {
        DeadListPool x = sample();
        row("13 files", x, 0, 0, 1, 3, NONE, NONE, 0, 1, 0, NONE, 3);
        row("13 first", x, 1, 2, 1, NONE, 0, NONE, 1, 3, 0, NONE, 0);
        row("13 tagged", x, 2, 3, 2, 1, 0, NONE, 2, 3, 1, NONE, 0);
        row("13 last", x, 3, 2, 3, 2, 0, NONE, 1, 4, 0, NONE, 0);
        row("13 bookmark", x, 4, 4, 2, NONE, NONE, NONE, 0, 0, 0, NONE, 0);
        row("13 fork", x, 5, 0, 4, 2, NONE, 2, 0, 4, 0, NONE, 0);
        row("13 bound", x, 6, 1, 4, NONE, NONE, NONE, 0, 0, 0, 300, 0);
        due("13 what", x.told(0, -1), BAD);
        due("13 what", x.told(0, 10), BAD);
        due("13 bad ahead of outside", x.told(20, 10), BAD);
        due("13 outside", x.told(20, 0), OUTSIDE);
        due("13 outside", x.told(-1, 0), OUTSIDE);
        due("13 outside", x.told(Integer.MIN_VALUE, 0), OUTSIDE);
        due("13 absent", x.told(7, 0), ABSENT);
        due("13 absent", x.told(19, 9), ABSENT);
    }

    private static void slot() {
        DeadListPool x = sample();
        due("14 block", x.slot(1, 0), 0);
        due("14 block", x.slot(2, 0), 3);
        due("14 empty", x.slot(0, 0), NONE);
        due("14 last", x.slot(5, 11), 7);
        due("14 bound", x.slot(6, 0), NONE);
        due("14 slot", x.slot(0, -1), BAD);
        due("14 slot", x.slot(0, 12), BAD);
        due("14 bad ahead of outside", x.slot(20, 12), BAD);
        due("14 bad ahead of a bookmark", x.slot(4, 12), BAD);
        due("14 outside", x.slot(20, 0), OUTSIDE);
        due("14 outside", x.slot(-1, 0), OUTSIDE);
        due("14 absent", x.slot(7, 0), ABSENT);
        due("14 bookmark", x.slot(4, 0), OTHER);
    }

    private static void block() {
        DeadListPool x = sample();
        due("15 size", x.block(5, 0), 32);
        due("15 birth", x.block(5, 1), 3);
        due("15 holders", x.block(0, 2), 1);
        due("15 holders", x.block(1, 2), 3);
        due("15 holders", x.block(2, 2), 3);
        due("15 holders", x.block(3, 2), 3);
        due("15 holders", x.block(4, 2), 2);
        due("15 holders", x.block(5, 2), 1);
        due("15 what", x.block(0, -1), BAD);
        due("15 what", x.block(0, 3), BAD);
        due("15 bad ahead of outside", x.block(96, 3), BAD);
        due("15 outside", x.block(96, 0), OUTSIDE);
        due("15 outside", x.block(-1, 0), OUTSIDE);
        due("15 absent", x.block(95, 0), ABSENT);
        due("15 absent", x.block(8, 2), ABSENT);
    }

    private static void taken() {
        DeadListPool x = sample();
        int[] of = {0, 6, 1, 2, 4};
        int[] made = {1, 4, 1, 2, 2};
        int[] over = {0, 0, 2, 2, 4};
        for (int kind = 0; kind <= 4; kind++) {
            for (int k = 0; k <= 4; k++) {
                boolean fits = k == kind || k == over[kind];
                due("16 kind " + kind + " as " + k, x.taken(of[kind], k), fits ? made[kind] : OTHER);
            }
        }
        due("16 k", x.taken(0, -1), BAD);
        due("16 k", x.taken(0, 5), BAD);
        due("16 bad ahead of asked", x.taken(20, 5), BAD);
        due("16 outside", x.taken(20, 0), OUTSIDE);
        due("16 outside", x.taken(-1, 4), OUTSIDE);
        due("16 absent", x.taken(7, 0), ABSENT);
    }

    private static void dead() {
        DeadListPool x = sample();
        due("17 no prev", x.dead(1, 0), 0);
        due("17 no prev", x.dead(1, 1), NONE);
        due("17 no prev", x.dead(1, 2), NONE);
        due("17 of a snapshot", x.dead(2, 0), 1);
        due("17 of a snapshot", x.dead(2, 1), 0);
        due("17 of a snapshot", x.dead(2, 2), 0);
        due("17 of a snapshot", x.dead(3, 0), 1);
        due("17 of a snapshot", x.dead(3, 1), 1);
        due("17 of files", x.dead(0, 0), 3);
        due("17 latest", x.dead(0, 1), 5);
        due("17 earliest", x.dead(0, 2), 2);
        due("17 of a fork", x.dead(5, 0), 1);
        due("17 of a fork", x.dead(5, 1), 2);
        due("17 what", x.dead(0, -1), BAD);
        due("17 what", x.dead(0, 3), BAD);
        due("17 bad ahead of outside", x.dead(20, 3), BAD);
        due("17 outside", x.dead(20, 0), OUTSIDE);
        due("17 absent", x.dead(7, 0), ABSENT);
        due("17 bookmark", x.dead(4, 0), OTHER);
        likeBirths();
    }

    private static void likeBirths() {
        DeadListPool x = new DeadListPool();
        x.files(NONE);
        for (int slot = 4; slot >= 0; slot--) {
            x.write(0, slot, 1);
        }
        x.snap(0, 0);
        for (int slot = 0; slot < 4; slot++) {
            x.write(0, slot + 5, 1);
            x.erase(0, slot);
        }
        due("17 all", x.dead(0, 0), 4);
        due("17 of like ones the least", x.dead(0, 1), 1);
        due("17 of like ones the greatest", x.dead(0, 2), 4);
        x.snap(0, 0);
        for (int slot = 4; slot < 9; slot++) {
            x.erase(0, slot);
        }
        due("17 two births", x.dead(0, 0), 5);
        due("17 the later ones' least", x.dead(0, 1), 5);
        due("17 the earlier one", x.dead(0, 2), 0);
    }

    private static void deadList() {
        DeadListPool x = sample();
        due("18 born by number 0, after 1", x.deadList(0, 0), 32);
        due("18 born by number 1, after 2", x.deadList(0, 1), 8);
        due("18 all others", x.deadList(0, 2), 4);
        due("18 no number 3", x.deadList(0, 3), NO);
        due("18 of a snapshot", x.deadList(3, 0), 0);
        due("18 of a snapshot", x.deadList(3, 1), 2);
        due("18 of a snapshot", x.deadList(3, 2), NO);
        due("18 of a fork", x.deadList(5, 0), 0);
        due("18 of a fork", x.deadList(5, 1), 4);
        due("18 no chain", x.deadList(1, 0), NO);
        due("18 below 0", x.deadList(0, -1), NO);
        due("18 far", x.deadList(0, Integer.MAX_VALUE), NO);
        due("18 far", x.deadList(0, Integer.MIN_VALUE), NO);
        due("18 bookmark", x.deadList(4, 0), NO);
        due("18 absent", x.deadList(7, 0), NO);
        due("18 outside", x.deadList(20, 0), NO);
        due("18 outside", x.deadList(-1, 0), NO);
    }

    private static void space() {
        DeadListPool x = sample();
        due("19", x.space(0), 16);
        due("19", x.space(1), 7);
        due("19", x.space(2), 14);
        due("19", x.space(3), 60);
        due("19", x.space(5), 202);
        due("19", x.space(6), 0);
        due("19 bookmark", x.space(4), NO);
        due("19 absent", x.space(7), NO);
        due("19 outside", x.space(20), NO);
        due("19 outside", x.space(-1), NO);
        for (int slot = 0; slot < 12; slot++) {
            x.write(0, slot, BILLION);
        }
        due("19 beyond an int", x.space(0), 12000000000L);
    }

    private static void alone() {
        DeadListPool x = sample();
        due("20", x.alone(0), 0);
        due("20", x.alone(1), 1);
        due("20", x.alone(2), 0);
        due("20", x.alone(3), 32);
        due("20", x.alone(5), 192);
        due("20", x.alone(6), 0);
        due("20 bookmark", x.alone(4), NO);
        due("20 absent", x.alone(7), NO);
        due("20 outside", x.alone(20), NO);
        due("20 outside", x.alone(-1), NO);
        due("20 outside", x.alone(32), NO);
        for (int slot = 0; slot < 12; slot++) {
            x.write(6, slot, 25);
            x.write(0, slot, BILLION);
        }
        due("20 beyond an int", x.alone(0), 12000000000L);
    }

    private static void range() {
        DeadListPool x = sample();
        due("21 one", x.range(3, 3), 32);
        due("21 two", x.range(1, 2), 1);
        due("21 two", x.range(2, 3), 32);
        due("21 three", x.range(1, 3), 37);
        due("21 the wrong way", x.range(3, 1), NO);
        due("21 files", x.range(0, 3), NO);
        due("21 files", x.range(1, 0), NO);
        due("21 bookmark", x.range(4, 3), NO);
        due("21 absent", x.range(1, 7), NO);
        due("21 absent", x.range(7, 7), NO);
        due("21 outside", x.range(-1, 3), NO);
        due("21 outside", x.range(1, 20), NO);
        due("21 snapshot of the fork", x.snap(5, 0), 7);
        due("21 along the fork", x.range(1, 7), 1);
        due("21 in another chain", x.range(3, 7), NO);
        x.erase(0, 1);
        due("21 what files let go", x.range(2, 3), 48);
    }

    private static void since() {
        DeadListPool x = sample();
        due("22 after the first", x.since(3, 1), 56);
        due("22 after the second", x.since(3, 2), 48);
        due("22 after itself", x.since(3, 3), 0);
        due("22 before the other", x.since(1, 3), 0);
        due("22 after a bookmark", x.since(3, 4), 48);
        due("22 after files", x.since(3, 0), 56);
        due("22 after a fork", x.since(5, 5), 0);
        due("22 after a fork", x.since(5, 3), 192);
        due("22 of a bookmark", x.since(4, 0), NO);
        due("22 absent", x.since(7, 0), NO);
        due("22 absent", x.since(0, 7), NO);
        due("22 outside", x.since(20, 0), NO);
        due("22 outside", x.since(0, -1), NO);
    }

    private static void common() {
        DeadListPool x = sample();
        due("23 two", x.common(1, 2), 6);
        due("23 two", x.common(2, 1), 6);
        due("23 two", x.common(3, 5), 8);
        due("23 none", x.common(0, 5), 0);
        due("23 with itself", x.common(3, 3), 60);
        due("23 both empty", x.common(0, 6), 0);
        due("23 bookmark", x.common(4, 1), NO);
        due("23 bookmark", x.common(1, 4), NO);
        due("23 absent", x.common(7, 1), NO);
        due("23 absent", x.common(1, 7), NO);
        due("23 outside", x.common(20, 1), NO);
        due("23 outside", x.common(1, -1), NO);
    }
}
