/** Promises 27 to 31 at the edges that their words name: each sentence has a test of its own. */
public final class SheetsBoundsTest {
    private static final int NONE = Check.NONE, BAD = Check.BAD;
    private static final int ABSENT = Check.ABSENT, OUTSIDE = Check.OUTSIDE, OTHER = Check.OTHER;
    private static final int NEGATIVE = Check.NEGATIVE;
    private static final long NO = Check.NO;
    private static final int BILLION = 1000000000;
    private static final long TWO_32 = 4294967296L;
    private static final Check CHECK = new Check("SheetsBoundsTest");

    public static void main(String[] args) {
        sheetNumbers();
        sheetSorts();
        sheetLengths();
        sheetAllZero();
        sheetMissing();
        cellPlaces();
        cellOfAMissingSheet();
        cellOfInts();
        cellOfLongs();
        itemPlaces();
        differNumbers();
        differAsked();
        differOfNoneAndOfAll();
        differEmptyOrBlock();
        differIsARowOfLongs();
        applyNumbers();
        applyAsked();
        applySort();
        applySlots();
        applySizes();
        applySizeZero();
        applyIntsOfLongs();
        applyAtQuota();
        applyAtFullBlocks();
        applyOneBehindAnother();
        applyEndsBehindASlot();
        applyOfNoneAndOfAll();
        applyWhatDiffers();
        CHECK.end();
    }

    private static void due(String call, long got, long want) {
        CHECK.due(call, got, want);
    }

    private static Edge kinds() {
        return new Edge(CHECK, Samples::kinds);
    }

    private static void row(String name, DeadListPool x, int sheet, long... want) {
        for (int i = 0; i < want.length; i++) {
            due(name + ", item " + i, x.item(sheet, i), want[i]);
        }
        due(name + ", no more", x.item(sheet, want.length), NO);
    }

    /** "BAD: no such SHEET": 0 .. 3 are. */
    private static void sheetNumbers() {
        Edge edge = kinds();
        int[] bad = {-1, 4, Integer.MIN_VALUE, Integer.MAX_VALUE};
        for (int sheet : bad) {
            for (int sort = -1; sort <= 1; sort++) {
                int s = sort;
                edge.still("27 sheet " + sheet, x -> x.sheet(sheet, s, 5), BAD);
            }
            edge.still("27 sheet ahead of -14", x -> x.sheet(sheet, 0, -1), BAD);
        }
        for (int sheet = 0; sheet < 4; sheet++) {
            int s = sheet;
            edge.moves("27 sheet " + sheet, x -> x.sheet(s, 1, 5), 1);
        }
    }

    /** "of a sort": 0 ints, 1 longs; -1 missing. "BAD: .. sort". */
    private static void sheetSorts() {
        Edge edge = kinds();
        int[] bad = {-2, 2, Integer.MIN_VALUE, Integer.MAX_VALUE};
        for (int sort : bad) {
            edge.still("27 sort " + sort, x -> x.sheet(0, sort, 5), BAD);
            edge.still("27 sort ahead of n", x -> x.sheet(0, sort, 41), BAD);
            edge.still("27 sort ahead of -14", x -> x.sheet(0, sort, -1), BAD);
        }
        DeadListPool x = edge.fresh();
        due("27 ints", x.sheet(3, 0, 1), 1);
        due("27 ints", x.cell(3, 0, TWO_32 + 7), 1);
        due("27 ints", x.item(3, 0), 7);
        due("27 longs", x.sheet(3, 1, 1), 1);
        due("27 longs", x.cell(3, 0, TWO_32 + 7), 1);
        due("27 longs", x.item(3, 0), TWO_32 + 7);
        due("27 missing", x.sheet(3, -1, 1), 1);
        due("27 missing", x.cell(3, 0, 1), ABSENT);
    }

    /** "n above 40; -14." */
    private static void sheetLengths() {
        Edge edge = kinds();
        for (int sort = 0; sort <= 1; sort++) {
            int s = sort;
            edge.still("27 n 41", x -> x.sheet(0, s, 41), BAD);
            edge.still("27 greatest n", x -> x.sheet(0, s, Integer.MAX_VALUE), BAD);
            edge.still("27 n -1", x -> x.sheet(0, s, -1), NEGATIVE);
            edge.still("27 least n", x -> x.sheet(0, s, Integer.MIN_VALUE), NEGATIVE);
            int[] fine = {0, 1, 39, 40};
            for (int n : fine) {
                DeadListPool x = edge.fresh();
                due("27 n " + n, x.sheet(0, s, n), 1);
                due("27 last of " + n, x.item(0, n - 1), n == 0 ? NO : 0);
                due("27 behind the last of " + n, x.item(0, n), NO);
            }
        }
    }

    /** "A SHEET becomes a row of n of a sort, all 0": whatever it was, shorter or longer. */
    private static void sheetAllZero() {
        DeadListPool x = new DeadListPool();
        x.sheet(1, 1, 40);
        for (int i = 0; i < 40; i++) {
            x.cell(1, i, -1 - i);
        }
        due("27 shorter", x.sheet(1, 1, 2), 1);
        row("27 shorter", x, 1, 0, 0);
        due("27 longer", x.sheet(1, 1, 40), 1);
        for (int i = 0; i < 40; i++) {
            due("27 all 0", x.item(1, i), 0);
        }
        x.cell(1, 39, 5);
        due("27 as long", x.sheet(1, 1, 40), 1);
        due("27 all 0", x.item(1, 39), 0);
        x.cell(1, 39, 5);
        due("27 away", x.sheet(1, -1, 0), 1);
        due("27 there again", x.sheet(1, 0, 40), 1);
        due("27 all 0", x.item(1, 39), 0);
        due("27 the others are missing still", x.cell(0, 0, 1), ABSENT);
        due("27 the others are missing still", x.cell(2, 0, 1), ABSENT);
    }

    /** "or missing (sort -1: n does not matter)". */
    private static void sheetMissing() {
        Edge edge = kinds();
        int[] any = {Integer.MIN_VALUE, -1, 0, 40, 41, Integer.MAX_VALUE};
        for (int n : any) {
            edge.moves("27 missing, n " + n, x -> x.sheet(0, -1, n), 1);
            edge.still("27 missing already, n " + n, x -> x.sheet(3, -1, n), 1);
        }
        DeadListPool x = edge.fresh();
        x.sheet(0, -1, 3);
        due("27 no item", x.item(0, 0), NO);
        due("27 no cell", x.cell(0, 0, 1), ABSENT);
        due("27 none to apply", x.apply(0, 0, 0), ABSENT);
    }

    /** "Item i of a SHEET becomes v .. BAD: no such SHEET; -11; -12." */
    private static void cellPlaces() {
        Edge edge = kinds();
        for (int sheet = 0; sheet <= 1; sheet++) {
            int s = sheet;
            edge.moves("28 first", x -> x.cell(s, 0, 77), 1);
            edge.moves("28 last", x -> x.cell(s, 3, 77), 1);
            edge.still("28 behind the last", x -> x.cell(s, 4, 77), OUTSIDE);
            edge.still("28 ahead of the first", x -> x.cell(s, -1, 77), OUTSIDE);
            edge.still("28 far", x -> x.cell(s, Integer.MAX_VALUE, 77), OUTSIDE);
            edge.still("28 far", x -> x.cell(s, Integer.MIN_VALUE, 77), OUTSIDE);
        }
        edge.still("28 a row of none", x -> x.cell(2, 0, 77), OUTSIDE);
        DeadListPool x = edge.fresh();
        x.cell(0, 3, 77);
        row("28 only this one", x, 0, 3, 20, 12, 77);
        x.sheet(3, 1, 40);
        due("28 place 39", x.cell(3, 39, 5), 1);
        due("28 place 40", x.cell(3, 40, 5), OUTSIDE);
    }

    private static void cellOfAMissingSheet() {
        Edge edge = kinds();
        edge.still("28 missing", x -> x.cell(3, 0, 1), ABSENT);
        edge.still("28 missing ahead of -12", x -> x.cell(3, -1, 1), ABSENT);
        edge.still("28 missing ahead of -12", x -> x.cell(3, 40, 1), ABSENT);
        int[] bad = {-1, 4, Integer.MIN_VALUE, Integer.MAX_VALUE};
        for (int sheet : bad) {
            edge.still("28 sheet " + sheet, x -> x.cell(sheet, 0, 1), BAD);
            edge.still("28 sheet ahead of -12", x -> x.cell(sheet, -1, 1), BAD);
        }
    }

    /** "of ints its lowest 32 bits": at each turn of the sign and each wrap-around. */
    private static void cellOfInts() {
        long[] given = {0, 1, -1, Integer.MAX_VALUE, Integer.MAX_VALUE + 1L, Integer.MIN_VALUE, Integer.MIN_VALUE - 1L,
            TWO_32 - 1, TWO_32, TWO_32 + 1, -TWO_32, -TWO_32 - 1, Long.MAX_VALUE, Long.MIN_VALUE, Check.NO};
        long[] kept = {0, 1, -1, Integer.MAX_VALUE, Integer.MIN_VALUE, Integer.MIN_VALUE, Integer.MAX_VALUE,
            -1, 0, 1, 0, -1, -1, 0, 0};
        DeadListPool x = new DeadListPool();
        x.sheet(0, 0, 1);
        for (int i = 0; i < given.length; i++) {
            due("28 of ints", x.cell(0, 0, given[i]), 1);
            due("28 of ints " + given[i], x.item(0, 0), kept[i]);
        }
    }

    /** Of longs it is v itself. */
    private static void cellOfLongs() {
        long[] given = {0, 1, -1, Integer.MAX_VALUE + 1L, Integer.MIN_VALUE - 1L, TWO_32 - 1, TWO_32, TWO_32 + 1, -TWO_32,
            Long.MAX_VALUE, Long.MIN_VALUE, Check.NO};
        DeadListPool x = new DeadListPool();
        x.sheet(0, 1, 1);
        for (long v : given) {
            due("28 of longs", x.cell(0, 0, v), 1);
            due("28 of longs " + v, x.item(0, 0), v);
        }
    }

    /** "Item i of a SHEET. NO: no such SHEET, none, no such item." */
    private static void itemPlaces() {
        Edge edge = kinds();
        edge.still("29 first", x -> x.item(0, 0), 3);
        edge.still("29 last", x -> x.item(0, 3), 1);
        edge.still("29 behind the last", x -> x.item(0, 4), NO);
        edge.still("29 ahead of the first", x -> x.item(0, -1), NO);
        edge.still("29 far", x -> x.item(0, Integer.MAX_VALUE), NO);
        edge.still("29 far", x -> x.item(0, Integer.MIN_VALUE), NO);
        edge.still("29 a long", x -> x.item(1, 1), TWO_32 + 1);
        edge.still("29 a row of none", x -> x.item(2, 0), NO);
        edge.still("29 missing", x -> x.item(3, 0), NO);
        int[] bad = {-1, 4, Integer.MIN_VALUE, Integer.MAX_VALUE};
        for (int sheet : bad) {
            edge.still("29 sheet " + sheet, x -> x.item(sheet, 0), NO);
        }
    }

    /** "BAD: no such SHEET". */
    private static void differNumbers() {
        Edge edge = kinds();
        int[] bad = {-1, 4, Integer.MIN_VALUE, Integer.MAX_VALUE};
        for (int sheet : bad) {
            edge.still("30 sheet " + sheet, x -> x.differ(sheet, 0, 2), BAD);
            edge.still("30 sheet ahead of of", x -> x.differ(sheet, 20, 2), BAD);
            edge.still("30 sheet ahead of other", x -> x.differ(sheet, 0, 20), BAD);
        }
        for (int sheet = 0; sheet < 4; sheet++) {
            int s = sheet;
            edge.moves("30 sheet " + sheet, x -> x.differ(s, 0, 2), 6);
        }
    }

    /** "of, then other: -12; -11; -13: a BOOKMARK." */
    private static void differAsked() {
        Edge edge = kinds();
        int[] wrong = {-1, 20, 6, 4};
        int[] answer = {OUTSIDE, OUTSIDE, ABSENT, OTHER};
        for (int i = 0; i < wrong.length; i++) {
            int of = wrong[i];
            edge.still("30 of " + of, x -> x.differ(0, of, 0), answer[i]);
            edge.still("30 other " + of, x -> x.differ(0, 0, of), answer[i]);
            for (int other : wrong) {
                edge.still("30 of " + of + " ahead of " + other, x -> x.differ(0, of, other), answer[i]);
            }
        }
        for (int of = 0; of < 6; of++) {
            int t = of;
            if (of != 4) {
                edge.does("30 of any that has slots", x -> x.differ(2, t, t), 0);
            }
        }
    }

    /** "of each SLOT, by numbers, ..: how many items": none, all twelve. */
    private static void differOfNoneAndOfAll() {
        DeadListPool x = new DeadListPool();
        x.files(NONE);
        x.files(NONE);
        due("30 both empty", x.differ(0, 0, 1), 0);
        row("30 both empty", x, 0);
        for (int slot = 11; slot >= 0; slot--) {
            x.write(1, slot, 50 + slot);
        }
        due("30 all", x.differ(0, 0, 1), 24);
        for (int slot = 0; slot < 12; slot++) {
            due("30 the slot", x.item(0, 2 * slot), slot);
            due("30 the size", x.item(0, 2 * slot + 1), 50 + slot);
        }
        due("30 no more", x.item(0, 24), NO);
        due("30 all gone", x.differ(0, 1, 0), 24);
        for (int slot = 0; slot < 12; slot++) {
            due("30 the slot", x.item(0, 2 * slot), slot);
            due("30 empty", x.item(0, 2 * slot + 1), 0);
        }
        due("30 none again", x.differ(0, 1, 1), 0);
        row("30 none again", x, 0);
    }

    /** "in which other has another BLOCK (or EMPTY) than of: .. the SIZE there in other (0: EMPTY)". */
    private static void differEmptyOrBlock() {
        DeadListPool x = new DeadListPool();
        x.files(NONE);
        x.write(0, 0, 5);
        x.write(0, 3, 6);
        x.write(0, 11, 7);
        x.snap(0, 0);
        x.write(0, 0, 5);
        x.erase(0, 3);
        x.write(0, 4, BILLION);
        due("30 from the snapshot", x.differ(1, 1, 0), 6);
        row("30 another of its size, empty, one where none was", x, 1, 0, 5, 3, 0, 4, BILLION);
        due("30 to the snapshot", x.differ(1, 0, 1), 6);
        row("30 to the snapshot", x, 1, 0, 5, 3, 6, 4, 0);
    }

    /** "A SHEET becomes a row of longs": one of ints, a missing one, a longer one. */
    private static void differIsARowOfLongs() {
        for (int sheet = 0; sheet < 4; sheet++) {
            DeadListPool x = new DeadListPool();
            Samples.kinds(x);
            due("30 items", x.differ(sheet, 0, 2), 6);
            row("30 items", x, sheet, 0, 3, 1, 5, 2, 0);
            due("30 not of ints", x.apply(5, sheet, 0), OTHER);
            due("30 of longs", x.cell(sheet, 5, TWO_32), 1);
            due("30 of longs", x.item(sheet, 5), TWO_32);
            due("30 no more", x.cell(sheet, 6, 1), OUTSIDE);
            due("30 laid out longer", x.sheet(sheet, 1, 40), 1);
            due("30 nothing is left", x.item(sheet, 1), 0);
        }
    }

    /** "BAD: no such SHEET, sort". */
    private static void applyNumbers() {
        Edge edge = kinds();
        int[] badSheet = {-1, 4, Integer.MIN_VALUE, Integer.MAX_VALUE};
        for (int sheet : badSheet) {
            edge.still("31 sheet " + sheet, x -> x.apply(0, sheet, 0), BAD);
            edge.still("31 sheet ahead of asked", x -> x.apply(20, sheet, 0), BAD);
        }
        int[] badSort = {-1, 2, Integer.MIN_VALUE, Integer.MAX_VALUE};
        for (int sort : badSort) {
            edge.still("31 sort " + sort, x -> x.apply(0, 0, sort), BAD);
            edge.still("31 sort ahead of asked", x -> x.apply(20, 0, sort), BAD);
            edge.still("31 sort ahead of missing", x -> x.apply(0, 3, sort), BAD);
        }
    }

    /** "ASKED FILES; the SHEET". */
    private static void applyAsked() {
        Edge edge = kinds();
        edge.moves("31 FILES", x -> x.apply(0, 0, 0), 1);
        edge.moves("31 BOUND", x -> x.apply(1, 0, 0), 1);
        edge.moves("31 a fork", x -> x.apply(5, 0, 0), 1);
        edge.still("31 SNAPSHOT", x -> x.apply(2, 0, 0), OTHER);
        edge.still("31 TAGGED", x -> x.apply(3, 0, 0), OTHER);
        edge.still("31 BOOKMARK", x -> x.apply(4, 0, 0), OTHER);
        edge.still("31 none such", x -> x.apply(6, 0, 0), ABSENT);
        edge.still("31 outside", x -> x.apply(20, 0, 0), OUTSIDE);
        edge.still("31 outside", x -> x.apply(-1, 0, 0), OUTSIDE);
        edge.still("31 asked ahead of the sheet's sort", x -> x.apply(6, 0, 1), ABSENT);
        edge.still("31 asked ahead of a missing sheet", x -> x.apply(2, 3, 0), OTHER);
        edge.still("31 asked ahead of a missing sheet", x -> x.apply(20, 3, 0), OUTSIDE);
    }

    /** "the SHEET: -13; -11". */
    private static void applySort() {
        Edge edge = kinds();
        edge.still("31 ints for longs", x -> x.apply(0, 0, 1), OTHER);
        edge.still("31 longs for ints", x -> x.apply(0, 1, 0), OTHER);
        edge.moves("31 longs", x -> x.apply(0, 1, 1), 1);
        edge.still("31 ints of none for longs", x -> x.apply(0, 2, 1), OTHER);
        edge.still("31 missing for ints", x -> x.apply(0, 3, 0), ABSENT);
        edge.still("31 missing for longs", x -> x.apply(0, 3, 1), ABSENT);
        DeadListPool x = edge.fresh();
        x.sheet(0, 0, 3);
        due("31 sort ahead of its end", x.apply(0, 0, 1), OTHER);
    }

    /** What apply answers for files that hold size 3 in slot 0 and 4 in slot 11, by a sheet of these. */
    private static Edge sheetOf(int sort, long... values) {
        return new Edge(CHECK, x -> {
            x.files(NONE);
            x.write(0, 0, 3);
            x.write(0, 11, 4);
            x.sheet(2, sort, values.length);
            for (int i = 0; i < values.length; i++) {
                x.cell(2, i, values[i]);
            }
        });
    }

    /** "(others: no such SLOT .. are left out)". */
    private static void applySlots() {
        for (int sort = 0; sort <= 1; sort++) {
            int s = sort;
            long[] bad = {-1, 12, Integer.MIN_VALUE, Integer.MAX_VALUE};
            for (long slot : bad) {
                sheetOf(s, slot, 5).still("31 slot " + slot, x -> x.apply(0, 2, s), 0);
                sheetOf(s, slot, 0).still("31 slot " + slot + " erased", x -> x.apply(0, 2, s), 0);
            }
            long[] fine = {0, 1, 10, 11};
            for (long slot : fine) {
                Edge edge = sheetOf(s, slot, 5);
                edge.moves("31 slot " + slot, x -> x.apply(0, 2, s), 1);
                DeadListPool x = edge.fresh();
                x.apply(0, 2, s);
                due("31 slot " + slot + " is written", x.block(x.slot(0, (int) slot), 0), 5);
            }
        }
        long[] wrapped = {TWO_32, TWO_32 + 11, -TWO_32, Long.MIN_VALUE, Long.MAX_VALUE};
        for (long slot : wrapped) {
            sheetOf(1, slot, 5).still("31 slot " + slot, x -> x.apply(0, 2, 1), 0);
        }
    }

    /** "(others: .. SIZE .. are left out)". */
    private static void applySizes() {
        for (int sort = 0; sort <= 1; sort++) {
            int s = sort;
            long[] bad = {-1, BILLION + 1, Integer.MIN_VALUE, Integer.MAX_VALUE};
            for (long size : bad) {
                sheetOf(s, 0, size).still("31 size " + size, x -> x.apply(0, 2, s), 0);
            }
            long[] fine = {1, 2, BILLION - 1, BILLION};
            for (long size : fine) {
                Edge edge = sheetOf(s, 0, size);
                edge.moves("31 size " + size, x -> x.apply(0, 2, s), 1);
                DeadListPool x = edge.fresh();
                x.apply(0, 2, s);
                due("31 size " + size + " is kept", x.block(x.slot(0, 0), 0), size);
                due("31 the other one is freed", x.count(3), 1);
            }
        }
        long[] wrapped = {TWO_32 + 1, TWO_32 + BILLION, -TWO_32 + 1, Long.MIN_VALUE + 1, Long.MAX_VALUE};
        for (long size : wrapped) {
            sheetOf(1, 0, size).still("31 size " + size, x -> x.apply(0, 2, 1), 0);
        }
    }

    /** "or ERASED (SIZE 0)". */
    private static void applySizeZero() {
        Edge edge = sheetOf(0, 11, 0);
        edge.moves("31 erased", x -> x.apply(0, 2, 0), 1);
        DeadListPool x = edge.fresh();
        x.apply(0, 2, 0);
        due("31 empty", x.slot(0, 11), NONE);
        due("31 freed", x.count(3), 1);
        due("31 the other stays", x.slot(0, 0), 0);
        sheetOf(0, 5, 0).still("31 an empty one is empty then", y -> y.apply(0, 2, 0), 1);
        sheetOf(1, 0, TWO_32).still("31 not 0 in its upper bits", y -> y.apply(0, 2, 1), 0);
    }

    /** A sheet of ints has kept the lowest 32 bits alone. */
    private static void applyIntsOfLongs() {
        Edge edge = sheetOf(0, TWO_32 + 5, TWO_32 + 6);
        edge.moves("31 slot 5, size 6", x -> x.apply(0, 2, 0), 1);
        DeadListPool x = edge.fresh();
        x.apply(0, 2, 0);
        due("31 slot 5, size 6", x.block(x.slot(0, 5), 0), 6);
        Edge zero = sheetOf(0, TWO_32, TWO_32);
        zero.moves("31 slot 0, erased", y -> y.apply(0, 2, 0), 1);
    }

    /** "FULL, are left out": above a QUOTA; what stands behind goes on. */
    private static void applyAtQuota() {
        DeadListPool x = new DeadListPool();
        x.files(10);
        x.sheet(0, 1, 10);
        long[] values = {0, 10, 1, 1, 0, 11, 0, 9, 1, 1};
        for (int i = 0; i < values.length; i++) {
            x.cell(0, i, values[i]);
        }
        due("31 at it, above, above, below, at it", x.apply(0, 0, 1), 3);
        due("31 space", x.space(0), 10);
        due("31 slot 0", x.block(x.slot(0, 0), 0), 9);
        due("31 slot 1", x.block(x.slot(0, 1), 0), 1);
        due("31 freed", x.count(3), 1);
    }

    /** "FULL, are left out": 96 blocks; an ERASED one makes room for those behind it. */
    private static void applyAtFullBlocks() {
        Edge edge = new Edge(CHECK, x -> {
            Samples.blocks(x, 96);
            x.sheet(0, 0, 8);
            long[] values = {0, 500, 1, 501, 2, 0, 3, 502};
            for (int i = 0; i < values.length; i++) {
                x.cell(0, i, values[i]);
            }
        });
        edge.moves("31 full, full, erased, written", x -> x.apply(0, 0, 0), 2);
        edge.still("31 full, full, erased though empty, full", x -> x.apply(8, 0, 0), 1);
        DeadListPool x = edge.fresh();
        x.apply(0, 0, 0);
        due("31 left as it was", x.slot(0, 0), 0);
        due("31 left as it was", x.slot(0, 1), 1);
        due("31 erased", x.slot(0, 2), NONE);
        due("31 written with its number", x.slot(0, 3), 2);
        due("31 size", x.block(2, 0), 502);
        due("31 the one it took the place of went", x.block(3, 0), ABSENT);
        due("31 blocks", x.count(1), 95);
        due("31 freed", x.count(3), 2);
    }

    /** "two by two from its first". */
    private static void applyOneBehindAnother() {
        DeadListPool x = sheetOf(0, 4, 8, 4, 9, 4, 0, 4, 7).fresh();
        due("31 all four", x.apply(0, 2, 0), 4);
        due("31 the last one stays", x.block(x.slot(0, 4), 0), 7);
        due("31 the others went", x.count(3), 2);
        DeadListPool y = sheetOf(0, 1, 2, 3, 4).fresh();
        due("31 slot 1 size 2, slot 3 size 4", y.apply(0, 2, 0), 2);
        due("31 slot 1", y.block(y.slot(0, 1), 0), 2);
        due("31 slot 2", y.slot(0, 2), NONE);
        due("31 slot 3", y.block(y.slot(0, 3), 0), 4);
    }

    /** "-12: it ends behind a SLOT (what stood ahead was)". */
    private static void applyEndsBehindASlot() {
        sheetOf(0, 0).still("31 one alone", x -> x.apply(0, 2, 0), OUTSIDE);
        sheetOf(1, 0).still("31 one alone", x -> x.apply(0, 2, 1), OUTSIDE);
        sheetOf(0, 12).still("31 one alone that is no slot's number", x -> x.apply(0, 2, 0), OUTSIDE);
        sheetOf(0, 12, 5, 1).still("31 nothing ahead was", x -> x.apply(0, 2, 0), OUTSIDE);
        sheetOf(0, 0, 5).moves("31 two", x -> x.apply(0, 2, 0), 1);
        Edge three = sheetOf(0, 0, 5, 11);
        three.moves("31 three", x -> x.apply(0, 2, 0), OUTSIDE);
        DeadListPool x = three.fresh();
        x.apply(0, 2, 0);
        due("31 what stood ahead was", x.block(x.slot(0, 0), 0), 5);
        due("31 the last was not", x.slot(0, 11), 1);
        DeadListPool y = new DeadListPool();
        y.files(NONE);
        y.write(0, 0, 5);
        y.sheet(0, 1, 39);
        due("31 thirty-nine", y.apply(0, 0, 1), OUTSIDE);
        due("31 slot 0 was erased", y.slot(0, 0), NONE);
    }

    /** "how many were": none of a row of none, twenty of the longest. */
    private static void applyOfNoneAndOfAll() {
        sheetOf(0).still("31 ints of none", x -> x.apply(0, 2, 0), 0);
        sheetOf(1).still("31 longs of none", x -> x.apply(0, 2, 1), 0);
        DeadListPool x = new DeadListPool();
        x.files(NONE);
        x.sheet(0, 1, 40);
        for (int i = 0; i < 20; i++) {
            x.cell(0, 2 * i, i % 12);
            x.cell(0, 2 * i + 1, 1 + i);
        }
        due("31 twenty", x.apply(0, 0, 1), 20);
        due("31 all twelve slots", x.told(0, 6), 12);
        due("31 the last of each", x.space(0), 9 + 10 + 11 + 12 + 13 + 14 + 15 + 16 + 17 + 18 + 19 + 20);
        due("31 the others went", x.count(3), 8);
        due("31 the sheet stays", x.item(0, 39), 20);
    }

    /** What differs, carried over: then nothing but the blocks themselves differs. */
    private static void applyWhatDiffers() {
        DeadListPool x = new DeadListPool();
        Samples.kinds(x);
        due("30", x.differ(3, 5, 0), 8);
        row("30", x, 3, 0, 7, 1, 0, 2, 12, 11, 0);
        due("31", x.apply(5, 3, 1), 4);
        due("31 alike in size", x.space(5), x.space(0));
        due("31 not in blocks", x.common(5, 0), 0);
        due("30 blocks differ still", x.differ(3, 5, 0), 4);
    }
}
