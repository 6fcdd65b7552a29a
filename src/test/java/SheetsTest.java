/** Promises 27 to 31: the sheets. */
public final class SheetsTest {
    private static final int NONE = Check.NONE, BAD = Check.BAD;
    private static final int ABSENT = Check.ABSENT, OUTSIDE = Check.OUTSIDE, OTHER = Check.OTHER;
    private static final int NEGATIVE = Check.NEGATIVE;
    private static final long NO = Check.NO;
    private static final int BILLION = 1000000000;
    private static final Check CHECK = new Check("SheetsTest");

    public static void main(String[] args) {
        sheet();
        cellsOfInts();
        cellsOfLongs();
        differ();
        differRefused();
        differCarriedOver();
        applyInts();
        applyLongs();
        applyWithinLimits();
        applyToAnEnd();
        applyRefused();
        CHECK.end();
    }

    private static void due(String call, long got, long want) {
        CHECK.due(call, got, want);
    }

    private static void sheet() {
        DeadListPool x = new DeadListPool();
        due("27 sheet", x.sheet(-1, 0, 1), BAD);
        due("27 sheet", x.sheet(4, 0, 1), BAD);
        due("27 sheet, missing", x.sheet(4, -1, 1), BAD);
        due("27 sort", x.sheet(0, -2, 1), BAD);
        due("27 sort", x.sheet(0, 2, 1), BAD);
        due("27 n", x.sheet(0, 0, 41), BAD);
        due("27 n", x.sheet(0, 1, Integer.MAX_VALUE), BAD);
        due("27 below 0", x.sheet(0, 0, -1), NEGATIVE);
        due("27 below 0", x.sheet(0, 1, Integer.MIN_VALUE), NEGATIVE);
        due("27 sort ahead of n", x.sheet(0, 2, -1), BAD);
        due("27 sheet ahead of n", x.sheet(4, 0, -1), BAD);
        due("27 missing still", x.item(0, 0), NO);
        due("27 most", x.sheet(3, 1, 40), 1);
        due("27 last", x.item(3, 39), 0);
        due("27 no more", x.item(3, 40), NO);
        due("27 none", x.sheet(2, 0, 0), 1);
        due("27 none", x.item(2, 0), NO);
        x.cell(3, 0, 7);
        due("27 a refusal leaves it", x.sheet(3, 0, 41), BAD);
        due("27 a refusal leaves it", x.item(3, 0), 7);
        due("27 anew", x.sheet(3, 0, 2), 1);
        due("27 all 0", x.item(3, 0), 0);
        due("27 shorter", x.item(3, 2), NO);
        due("27 away, n does not matter", x.sheet(3, -1, 99), 1);
        due("27 away, n does not matter", x.sheet(3, -1, -99), 1);
        due("27 away", x.cell(3, 0, 1), ABSENT);
        due("27 away", x.item(3, 0), NO);
    }

    private static void cellsOfInts() {
        DeadListPool x = new DeadListPool();
        due("28 sheet", x.cell(-1, 0, 1), BAD);
        due("28 sheet", x.cell(4, 0, 1), BAD);
        due("28 missing", x.cell(0, 0, 1), ABSENT);
        due("28 missing ahead of outside", x.cell(0, -1, 1), ABSENT);
        x.sheet(0, 0, 3);
        due("28 outside", x.cell(0, -1, 1), OUTSIDE);
        due("28 outside", x.cell(0, 3, 1), OUTSIDE);
        due("28 outside", x.cell(0, Integer.MAX_VALUE, 1), OUTSIDE);
        due("28 last", x.cell(0, 2, -5), 1);
        due("29 last", x.item(0, 2), -5);
        due("28 lowest 32 bits", x.cell(0, 1, 4294967296L + 6), 1);
        due("29 lowest 32 bits", x.item(0, 1), 6);
        due("28 with their sign", x.cell(0, 0, 2147483648L), 1);
        due("29 with their sign", x.item(0, 0), -2147483648L);
        due("29 sheet", x.item(-1, 0), NO);
        due("29 sheet", x.item(4, 0), NO);
        due("29 none", x.item(1, 0), NO);
        due("29 outside", x.item(0, -1), NO);
        due("29 outside", x.item(0, 3), NO);
    }

    private static void cellsOfLongs() {
        DeadListPool x = new DeadListPool();
        x.sheet(1, 1, 2);
        due("28 long", x.cell(1, 0, Long.MAX_VALUE), 1);
        due("28 long", x.cell(1, 1, Long.MIN_VALUE), 1);
        due("29 long", x.item(1, 0), Long.MAX_VALUE);
        due("29 long", x.item(1, 1), Long.MIN_VALUE);
        due("28 outside", x.cell(1, 2, 0), OUTSIDE);
        due("28 over it", x.cell(1, 0, 4294967296L), 1);
        due("29 over it", x.item(1, 0), 4294967296L);
    }

    /** Files 0 with block 0 (slot 0, size 5), 1 (slot 4, 6), 2 (slot 11, 7); fork 2 of their snapshot 1. */
    private static DeadListPool sample() {
        DeadListPool x = new DeadListPool();
        x.files(NONE);
        x.write(0, 0, 5);
        x.write(0, 4, 6);
        x.write(0, 11, 7);
        x.snap(0, 0);
        x.fork(1);
        x.mark(1);
        return x;
    }

    private static void items(String name, DeadListPool x, int sheet, long... want) {
        for (int i = 0; i < want.length; i++) {
            due(name + ", item " + i, x.item(sheet, i), want[i]);
        }
        due(name + ", no more", x.item(sheet, want.length), NO);
    }

    private static void differ() {
        DeadListPool x = sample();
        due("30 alike", x.differ(0, 0, 2), 0);
        due("30 a row is there, of none", x.cell(0, 0, 1), OUTSIDE);
        due("30 with itself", x.differ(0, 0, 0), 0);
        x.write(2, 0, 5);
        x.erase(2, 4);
        x.write(2, 6, BILLION);
        x.sheet(0, 0, 40);
        due("30 items", x.differ(0, 0, 2), 6);
        items("30 from files to the fork", x, 0, 0, 5, 4, 0, 6, BILLION);
        due("30 a row of longs", x.apply(0, 0, 0), OTHER);
        due("30 items", x.differ(3, 2, 1), 6);
        items("30 from the fork to the snapshot", x, 3, 0, 5, 4, 6, 6, 0);
        for (int slot = 0; slot < 12; slot++) {
            x.write(2, slot, 9);
        }
        due("30 all", x.differ(0, 1, 2), 24);
    }

    private static void differRefused() {
        DeadListPool x = sample();
        x.sheet(0, 0, 2);
        x.cell(0, 1, 8);
        due("30 sheet", x.differ(-1, 0, 2), BAD);
        due("30 sheet", x.differ(4, 20, 2), BAD);
        due("30 outside", x.differ(0, 20, 2), OUTSIDE);
        due("30 outside", x.differ(0, 0, -1), OUTSIDE);
        due("30 absent", x.differ(0, 9, 2), ABSENT);
        due("30 absent", x.differ(0, 0, 9), ABSENT);
        due("30 bookmark", x.differ(0, 3, 0), OTHER);
        due("30 bookmark", x.differ(0, 0, 3), OTHER);
        due("30 all of the first ahead of the second", x.differ(0, 3, 20), OTHER);
        due("30 all of the first ahead of the second", x.differ(0, 9, 20), ABSENT);
        items("30 a refusal leaves it", x, 0, 0, 8);
    }

    private static void differCarriedOver() {
        DeadListPool x = sample();
        x.write(2, 0, 50);
        x.erase(2, 4);
        x.write(2, 6, 60);
        due("30", x.differ(1, 0, 2), 6);
        due("31", x.apply(0, 1, 1), 3);
        for (int slot = 0; slot < 12; slot++) {
            int a = x.slot(0, slot);
            int b = x.slot(2, slot);
            due("31 size alike", a == NONE ? 0 : x.block(a, 0), b == NONE ? 0 : x.block(b, 0));
        }
        due("31 blocks of their own", x.common(0, 2), 7);
    }

    private static DeadListPool withSheet(int sort, long... values) {
        DeadListPool x = sample();
        x.sheet(2, sort, values.length);
        for (int i = 0; i < values.length; i++) {
            x.cell(2, i, values[i]);
        }
        return x;
    }

    private static void applyInts() {
        DeadListPool x = withSheet(0, 0, 9, 4, 0, 5, 0, 12, 1, -1, 1, 2, -1, 3, BILLION + 1, 11, BILLION);
        due("31 those that were", x.apply(0, 2, 0), 4);
        due("31 written", x.block(x.slot(0, 0), 0), 9);
        due("31 erased", x.slot(0, 4), NONE);
        due("31 empty stays so", x.slot(0, 5), NONE);
        due("31 left out", x.slot(0, 2), NONE);
        due("31 left out", x.slot(0, 3), NONE);
        due("31 written", x.block(x.slot(0, 11), 0), BILLION);
        due("31 birth", x.block(x.slot(0, 11), 1), 2);
        due("31 none", withSheet(0).apply(0, 2, 0), 0);
    }

    private static void applyLongs() {
        DeadListPool x = withSheet(1, 4294967296L, 3, 0, 4294967297L, Long.MIN_VALUE, 1, 1, Long.MAX_VALUE, 2, Long.MIN_VALUE, 3, 4);
        due("31 one is a slot and a size", x.apply(0, 2, 1), 1);
        due("31 left as it was", x.slot(0, 0), 0);
        due("31 written", x.block(x.slot(0, 3), 0), 4);
        DeadListPool y = withSheet(1, 1, 2, 1, 3);
        due("31 twice in a slot", y.apply(0, 2, 1), 2);
        due("31 the last stays", y.block(y.slot(0, 1), 0), 3);
        due("31 the first is freed", y.count(3), 1);
    }

    private static void applyWithinLimits() {
        DeadListPool x = withSheet(0, 0, 11, 1, 4, 2, 6, 1, 0, 2, 6);
        due("31 bound", x.files(10), 4);
        due("31 what is full is left out", x.apply(4, 2, 0), 4);
        due("31 space", x.space(4), 6);
        DeadListPool y = withSheet(0, 0, 1, 1, 0, 1, 2);
        for (int i = 0; i < 8; i++) {
            int of = y.files(NONE);
            for (int slot = 0; slot < 12; slot++) {
                y.write(of, slot, 1);
            }
        }
        due("31 blocks", y.count(1), 96);
        due("31 full, room, written", y.apply(4, 2, 0), 2);
        due("31 blocks", y.count(1), 96);
    }

    private static void applyToAnEnd() {
        DeadListPool x = withSheet(0, 0, 9, 4);
        due("31 ends behind a slot", x.apply(0, 2, 0), OUTSIDE);
        due("31 what stood ahead was", x.block(x.slot(0, 0), 0), 9);
        due("31 what stood behind was not", x.slot(0, 4), 1);
        due("31 one alone", withSheet(1, 3).apply(0, 2, 1), OUTSIDE);
        due("31 one that is no slot", withSheet(1, 99).apply(0, 2, 1), OUTSIDE);
    }

    private static void applyRefused() {
        DeadListPool x = withSheet(0, 0, 9);
        due("31 sheet", x.apply(0, -1, 0), BAD);
        due("31 sheet", x.apply(20, 4, 0), BAD);
        due("31 sort", x.apply(0, 2, -1), BAD);
        due("31 sort", x.apply(0, 2, 2), BAD);
        due("31 bad ahead of asked", x.apply(20, 2, 2), BAD);
        due("31 outside", x.apply(20, 0, 0), OUTSIDE);
        due("31 outside", x.apply(-1, 2, 0), OUTSIDE);
        due("31 absent", x.apply(9, 2, 1), ABSENT);
        due("31 snapshot", x.apply(1, 0, 0), OTHER);
        due("31 bookmark", x.apply(3, 0, 0), OTHER);
        due("31 another sort", x.apply(0, 2, 1), OTHER);
        due("31 missing", x.apply(0, 0, 0), ABSENT);
        due("31 missing", x.apply(0, 0, 1), ABSENT);
        due("31 nothing changed", x.slot(0, 0), 0);
    }
}
