/** Promises 13 to 23 at the edges that their words name: each sentence has a test of its own. */
public final class SurveyBoundsTest {
    private static final int NONE = Check.NONE, BAD = Check.BAD;
    private static final int ABSENT = Check.ABSENT, OUTSIDE = Check.OUTSIDE, OTHER = Check.OTHER;
    private static final long NO = Check.NO;
    private static final Check CHECK = new Check("SurveyBoundsTest");

    public static void main(String[] args) {
        toldWhat();
        toldOfWhatHasNone();
        toldNumbers();
        toldHolds();
        slotNumbers();
        slotOfAKind();
        blockWhat();
        blockNumbers();
        blockHolders();
        takenKinds();
        takenMade();
        deadWhat();
        deadOfNone();
        deadOfAll();
        deadOfLikeBirths();
        listNumbers();
        listByBirth();
        listAfterARemoval();
        spaceOfNoneAndOfAll();
        aloneWithAnother();
        rangeOfOne();
        rangeBetween();
        rangeOfNoSuch();
        sinceByBirth();
        sinceOfNoSuch();
        commonOfNoneAndOfAll();
        CHECK.end();
    }

    private static void due(String call, long got, long want) {
        CHECK.due(call, got, want);
    }

    private static Edge kinds() {
        return new Edge(CHECK, Samples::kinds);
    }

    /** "BAD: what" and both its ends. */
    private static void toldWhat() {
        Edge edge = kinds();
        edge.still("13 what 0", x -> x.told(3, 0), 3);
        edge.still("13 what 9", x -> x.told(0, 9), 2);
        int[] bad = {-1, 10, Integer.MIN_VALUE, Integer.MAX_VALUE};
        for (int what : bad) {
            edge.still("13 what " + what, x -> x.told(0, what), BAD);
            edge.still("13 what ahead of -12", x -> x.told(20, what), BAD);
            edge.still("13 what ahead of -11", x -> x.told(6, what), BAD);
        }
    }

    /** "NONE; none of a BOOKMARK", "NONE: it is no SNAPSHOT", "0: not TAGGED", "NONE: not BOUND". */
    private static void toldOfWhatHasNone() {
        DeadListPool x = new DeadListPool();
        Samples.kinds(x);
        int[][] rows = {
            {0, 1, 3, NONE, NONE, 0, 2, 0, NONE, 2},
            {1, 1, NONE, NONE, NONE, 0, 1, 0, 100, 0},
            {2, 1, NONE, 0, NONE, 2, 2, 0, NONE, 0},
            {3, 2, 2, 0, NONE, 1, 2, 1, NONE, 0},
            {4, 1, NONE, NONE, NONE, 0, 0, 0, NONE, 0},
            {0, 3, 2, NONE, 2, 0, 3, 0, NONE, 0}};
        for (int of = 0; of < rows.length; of++) {
            for (int what = 0; what < 10; what++) {
                due("13 told(" + of + ", " + what + ")", x.told(of, what), rows[of][what]);
            }
        }
        x.tag(3, 0);
        due("13 no tags of a tagged one", x.told(3, 7), 0);
        x.files(0);
        due("13 a quota of 0", x.told(6, 8), 0);
        x.promote(5);
        due("13 owner of what was promoted", x.told(2, 3), 5);
        due("13 origin of the former owner", x.told(0, 4), 2);
        due("13 no origin of the new one", x.told(5, 4), NONE);
    }

    /** "-12; -11." */
    private static void toldNumbers() {
        Edge edge = kinds();
        edge.still("13 number -1", x -> x.told(-1, 0), OUTSIDE);
        edge.still("13 number 20", x -> x.told(20, 0), OUTSIDE);
        edge.still("13 number 5", x -> x.told(5, 0), 0);
        edge.still("13 number 6", x -> x.told(6, 0), ABSENT);
        edge.still("13 number 19", x -> x.told(19, 0), ABSENT);
        DeadListPool x = edge.fresh();
        x.remove(4);
        due("13 one that was", x.told(4, 0), ABSENT);
    }

    /** "how many BLOCKS it HOLDS (6)": 0 to 12. */
    private static void toldHolds() {
        DeadListPool x = new DeadListPool();
        x.files(NONE);
        for (int slot = 0; slot < 12; slot++) {
            due("13 holds", x.told(0, 6), slot);
            x.write(0, slot, 1);
        }
        due("13 holds all", x.told(0, 6), 12);
        x.write(0, 4, 2);
        due("13 one in another's place", x.told(0, 6), 12);
        x.erase(0, 4);
        due("13 one less", x.told(0, 6), 11);
    }

    /** "The number of the BLOCK in a SLOT; NONE. BAD: slot". */
    private static void slotNumbers() {
        Edge edge = kinds();
        edge.still("14 number 0", x -> x.slot(2, 0), 0);
        edge.still("14 slot 11", x -> x.slot(5, 11), 4);
        edge.still("14 empty", x -> x.slot(0, 1), NONE);
        edge.still("14 slot -1", x -> x.slot(0, -1), BAD);
        edge.still("14 slot 12", x -> x.slot(0, 12), BAD);
        edge.still("14 slot ahead of -12", x -> x.slot(20, 12), BAD);
        edge.still("14 slot ahead of -11", x -> x.slot(6, -1), BAD);
        edge.still("14 slot ahead of -13", x -> x.slot(4, -1), BAD);
    }

    /** "-12; -11; -13: a BOOKMARK." */
    private static void slotOfAKind() {
        Edge edge = kinds();
        edge.still("14 FILES", x -> x.slot(0, 2), 6);
        edge.still("14 BOUND", x -> x.slot(1, 0), 2);
        edge.still("14 SNAPSHOT", x -> x.slot(2, 1), 1);
        edge.still("14 TAGGED", x -> x.slot(3, 0), 3);
        edge.still("14 BOOKMARK", x -> x.slot(4, 0), OTHER);
        edge.still("14 none such", x -> x.slot(6, 0), ABSENT);
        edge.still("14 outside", x -> x.slot(20, 0), OUTSIDE);
        edge.still("14 outside", x -> x.slot(-1, 0), OUTSIDE);
    }

    /** "SIZE (what 0), BIRTH (1), how many THINGS HOLD it (2). BAD: what". */
    private static void blockWhat() {
        Edge edge = kinds();
        edge.still("15 size", x -> x.block(1, 0), 5);
        edge.still("15 birth", x -> x.block(1, 1), 1);
        edge.still("15 holders", x -> x.block(1, 2), 3);
        edge.still("15 what -1", x -> x.block(1, -1), BAD);
        edge.still("15 what 3", x -> x.block(1, 3), BAD);
        edge.still("15 what ahead of -12", x -> x.block(96, 3), BAD);
        edge.still("15 what ahead of -11", x -> x.block(5, -1), BAD);
    }

    /** "-12: outside 0 .. 95; -11." */
    private static void blockNumbers() {
        Edge edge = kinds();
        edge.still("15 number -1", x -> x.block(-1, 0), OUTSIDE);
        edge.still("15 number 96", x -> x.block(96, 0), OUTSIDE);
        edge.still("15 least number", x -> x.block(Integer.MIN_VALUE, 0), OUTSIDE);
        edge.still("15 greatest number", x -> x.block(Integer.MAX_VALUE, 0), OUTSIDE);
        edge.still("15 number 95", x -> x.block(95, 0), ABSENT);
        edge.still("15 number 0", x -> x.block(0, 0), 3);
        edge.still("15 one that was", x -> x.block(5, 0), ABSENT);
        edge.still("15 the last one", x -> x.block(6, 0), 12);
        edge.still("15 behind the last one", x -> x.block(7, 0), ABSENT);
        new Edge(CHECK, Samples::allBlocks).still("15 number 95 of 96", x -> x.block(95, 0), 96);
    }

    /** "how many THINGS HOLD it": from 1 to 20. */
    private static void blockHolders() {
        DeadListPool x = new DeadListPool();
        x.files(NONE);
        x.write(0, 0, 1);
        for (int of = 1; of < 20; of++) {
            due("15 holders", x.block(0, 2), of);
            due("15 one more", of % 2 == 0 ? x.snap(0, 0) : of == 1 ? x.snap(0, 1) : x.fork(1), of);
        }
        due("15 all twenty", x.block(0, 2), 20);
        x.erase(0, 0);
        due("15 one less", x.block(0, 2), 19);
    }

    /** "one of KIND k (0 .. 4), or one under that one": each kind taken for each. */
    private static void takenKinds() {
        Edge edge = kinds();
        boolean[][] fits = {
            {true, false, false, false, false},
            {true, true, false, false, false},
            {false, false, true, false, false},
            {false, false, true, true, false},
            {false, false, false, false, true}};
        for (int of = 0; of < 5; of++) {
            for (int k = 0; k < 5; k++) {
                int t = of;
                int kind = k;
                edge.still("16 " + of + " for " + k, x -> x.taken(t, kind), fits[of][k] ? edge.fresh().told(t, 1) : OTHER);
            }
        }
        int[] bad = {-1, 5, Integer.MIN_VALUE, Integer.MAX_VALUE};
        for (int k : bad) {
            edge.still("16 k " + k, x -> x.taken(0, k), BAD);
            edge.still("16 k ahead of -12", x -> x.taken(20, k), BAD);
            edge.still("16 k ahead of -11", x -> x.taken(6, k), BAD);
        }
        for (int k = 0; k < 5; k++) {
            int kind = k;
            edge.still("16 none such", x -> x.taken(6, kind), ABSENT);
            edge.still("16 outside", x -> x.taken(20, kind), OUTSIDE);
            edge.still("16 outside", x -> x.taken(-1, kind), OUTSIDE);
        }
    }

    /** "MADE": of a bookmark the snapshot's, of what is tagged with 0 still. */
    private static void takenMade() {
        DeadListPool x = new DeadListPool();
        Samples.kinds(x);
        x.tag(3, 0);
        due("16 tagged with 0", x.taken(3, 3), 2);
        due("16 bookmark", x.taken(4, 4), 1);
        due("16 fork", x.taken(5, 0), 3);
        due("16 fork", x.taken(5, 1), OTHER);
        due("16 new ones", x.taken(x.files(0), 1), 4);
    }

    /** "BAD: what; -12; -11; -13: a BOOKMARK." */
    private static void deadWhat() {
        Edge edge = kinds();
        edge.still("17 what 0", x -> x.dead(3, 0), 1);
        edge.still("17 what 2", x -> x.dead(3, 2), 0);
        edge.still("17 what -1", x -> x.dead(3, -1), BAD);
        edge.still("17 what 3", x -> x.dead(3, 3), BAD);
        edge.still("17 what ahead of -12", x -> x.dead(20, 3), BAD);
        edge.still("17 what ahead of -13", x -> x.dead(4, 3), BAD);
        edge.still("17 outside", x -> x.dead(20, 0), OUTSIDE);
        edge.still("17 none such", x -> x.dead(6, 0), ABSENT);
        edge.still("17 BOOKMARK", x -> x.dead(4, 0), OTHER);
        edge.still("17 BOUND", x -> x.dead(1, 0), 0);
        edge.still("17 TAGGED", x -> x.dead(3, 1), 0);
    }

    /** "(no PREV: none)", and none where there is a PREV. */
    private static void deadOfNone() {
        Edge edge = kinds();
        edge.still("17 no prev", x -> x.dead(1, 0), 0);
        edge.still("17 no prev", x -> x.dead(1, 1), NONE);
        edge.still("17 no prev", x -> x.dead(1, 2), NONE);
        edge.still("17 the first of a chain", x -> x.dead(2, 0), 0);
        edge.still("17 nothing died", x -> x.dead(5, 0), 0);
        edge.still("17 nothing died", x -> x.dead(5, 1), NONE);
        edge.still("17 nothing died", x -> x.dead(5, 2), NONE);
        edge.still("17 what is new is not dead", x -> x.dead(0, 0), 1);
    }

    /** "BLOCKS that its PREV HOLDS and it doesn't": all of them, by erasing and by writing over. */
    private static void deadOfAll() {
        DeadListPool x = new DeadListPool();
        x.files(NONE);
        for (int slot = 0; slot < 12; slot++) {
            x.write(0, slot, 1);
        }
        x.snap(0, 0);
        for (int slot = 0; slot < 12; slot++) {
            due("17 so many", x.dead(0, 0), slot);
            if (slot % 2 == 0) {
                x.erase(0, slot);
            } else {
                x.write(0, slot, 2);
            }
        }
        due("17 all", x.dead(0, 0), 12);
        due("17 the least", x.dead(0, 1), 0);
        due("17 the greatest", x.dead(0, 2), 11);
        x.rollback(0);
        due("17 none again", x.dead(0, 0), 0);
    }

    /** "the latest BIRTH, of like ones the least", "the earliest, of like ones the greatest". */
    private static void deadOfLikeBirths() {
        DeadListPool x = new DeadListPool();
        x.files(NONE);
        int[] order = {5, 3, 9, 0, 7, 1};
        for (int i = 0; i < order.length; i++) {
            x.write(0, order[i], 1);
            if (i % 2 == 1) {
                x.tick();
            }
        }
        x.snap(0, 0);
        for (int slot : order) {
            x.erase(0, slot);
        }
        due("17 all", x.dead(0, 0), 6);
        due("17 latest, the least", x.dead(0, 1), 4);
        due("17 earliest, the greatest", x.dead(0, 2), 1);
        x.rollback(0);
        x.erase(0, 1);
        due("17 one alone is the latest", x.dead(0, 1), 5);
        due("17 one alone is the earliest", x.dead(0, 2), 5);
        x.erase(0, 5);
        due("17 two births", x.dead(0, 1), 5);
        due("17 two births", x.dead(0, 2), 0);
    }

    /** "NO: no such THING, a BOOKMARK, its CHAIN has no number k." */
    private static void listNumbers() {
        Edge edge = kinds();
        edge.still("18 number 0", x -> x.deadList(0, 0), 0);
        edge.still("18 number 1", x -> x.deadList(0, 1), 5);
        edge.still("18 number 2", x -> x.deadList(0, 2), NO);
        edge.still("18 number -1", x -> x.deadList(0, -1), NO);
        edge.still("18 far", x -> x.deadList(0, Integer.MAX_VALUE), NO);
        edge.still("18 far", x -> x.deadList(0, Integer.MIN_VALUE), NO);
        edge.still("18 no chain", x -> x.deadList(1, 0), NO);
        edge.still("18 the first of a chain", x -> x.deadList(2, 0), NO);
        edge.still("18 TAGGED", x -> x.deadList(3, 0), 3);
        edge.still("18 BOOKMARK", x -> x.deadList(4, 0), NO);
        edge.still("18 none such", x -> x.deadList(6, 0), NO);
        edge.still("18 outside", x -> x.deadList(20, 0), NO);
        edge.still("18 outside", x -> x.deadList(-1, 0), NO);
    }

    /**
     * "a BIRTH not after MADE of number k .., but after MADE of number k + 1 (all others, if there is
     * none)": blocks of sizes 2^time, born at times 1 .. 6; snapshots made at 2, 4 and 6.
     */
    private static Edge births() {
        return new Edge(CHECK, x -> {
            x.files(NONE);
            for (int time = 1; time <= 6; time++) {
                x.write(0, time, 1 << time);
                if (time % 2 == 0) {
                    x.snap(0, 0);
                } else {
                    x.tick();
                }
            }
            for (int slot = 1; slot <= 6; slot++) {
                x.erase(0, slot);
            }
        });
    }

    private static void listByBirth() {
        Edge edge = births();
        for (int b = 0; b < 6; b++) {
            int block = b;
            edge.does("18 birth", x -> x.block(block, 1), b + 1);
        }
        edge.does("18 made", x -> x.told(1, 1), 2);
        edge.does("18 made", x -> x.told(3, 1), 6);
        edge.still("18 born at 5 and at 6, as number 0 was made", x -> x.deadList(0, 0), 32 + 64);
        edge.still("18 born at 3 and at 4, as number 1 was made", x -> x.deadList(0, 1), 8 + 16);
        edge.still("18 all others: born at 1 and at 2", x -> x.deadList(0, 2), 2 + 4);
        edge.still("18 no number 3", x -> x.deadList(0, 3), NO);
    }

    private static void listAfterARemoval() {
        DeadListPool x = births().fresh();
        due("18 the middle one goes", x.remove(2), 0);
        due("18 its births go to the next", x.deadList(0, 0), 8 + 16 + 32 + 64);
        due("18 all others", x.deadList(0, 1), 2 + 4);
        due("18 no number 2", x.deadList(0, 2), NO);
        due("18 the oldest goes", x.remove(1), 0);
        due("18 all", x.deadList(0, 0), 2 + 4 + 8 + 16 + 32 + 64);
        due("18 no number 1", x.deadList(0, 1), NO);
        due("18 the last goes", x.remove(3), 6);
        due("18 no number 0", x.deadList(0, 0), NO);
    }

    /** "SPACE. NO: no such THING, a BOOKMARK." */
    private static void spaceOfNoneAndOfAll() {
        Edge edge = kinds();
        edge.still("19 FILES", x -> x.space(0), 19);
        edge.still("19 BOUND", x -> x.space(1), 40);
        edge.still("19 SNAPSHOT", x -> x.space(2), 8);
        edge.still("19 TAGGED", x -> x.space(3), 12);
        edge.still("19 BOOKMARK", x -> x.space(4), NO);
        edge.still("19 none such", x -> x.space(6), NO);
        edge.still("19 outside", x -> x.space(20), NO);
        edge.still("19 outside", x -> x.space(-1), NO);
        edge.does("19 empty ones", x -> x.space(x.files(NONE)), 0);
    }

    /** "SIZES of BLOCKS that no other THING HOLDS": none, some, all; with one other holder no more. */
    private static void aloneWithAnother() {
        Edge edge = kinds();
        edge.still("20 some", x -> x.alone(0), 12);
        edge.still("20 all", x -> x.alone(1), 40);
        edge.still("20 none", x -> x.alone(2), 0);
        edge.still("20 none", x -> x.alone(3), 0);
        edge.still("20 a fork", x -> x.alone(5), 9);
        edge.still("20 BOOKMARK", x -> x.alone(4), NO);
        edge.still("20 none such", x -> x.alone(6), NO);
        edge.still("20 outside", x -> x.alone(20), NO);
        edge.still("20 outside", x -> x.alone(-1), NO);
        DeadListPool x = edge.fresh();
        x.snap(1, 0);
        due("20 another holds it too", x.alone(1), 0);
        due("20 another holds it too", x.alone(6), 0);
        x.erase(1, 0);
        due("20 alone again", x.alone(6), 40);
        due("20 holds none", x.alone(1), 0);
        due("20 bookmarks hold nothing", x.mark(6), 7);
        due("20 bookmarks hold nothing", x.alone(6), 40);
    }

    /** "b is a": then what it alone holds. */
    private static void rangeOfOne() {
        Edge edge = new Edge(CHECK, x -> Samples.chain(x, 4));
        for (int of = 1; of <= 4; of++) {
            int s = of;
            edge.still("21 of one", x -> x.range(s, s), 100 + of);
        }
        Edge some = kinds();
        some.still("21 TAGGED", x -> x.range(3, 3), 0);
        some.still("21 of files", x -> x.range(0, 0), NO);
        some.still("21 of bound ones", x -> x.range(1, 1), NO);
        some.still("21 of a bookmark", x -> x.range(4, 4), NO);
    }

    /** "or a is in the CHAIN of b": "one of a, b, and those between HOLDS and no other THING". */
    private static void rangeBetween() {
        Edge edge = new Edge(CHECK, x -> Samples.chain(x, 4));
        edge.still("21 two", x -> x.range(1, 2), 101 + 102);
        edge.still("21 two", x -> x.range(3, 4), 103 + 104);
        edge.still("21 three", x -> x.range(2, 4), 102 + 103 + 104);
        edge.still("21 all", x -> x.range(1, 4), 101 + 102 + 103 + 104);
        edge.still("21 the other way", x -> x.range(2, 1), NO);
        edge.still("21 the other way", x -> x.range(4, 1), NO);
        DeadListPool x = new DeadListPool();
        x.files(NONE);
        x.write(0, 0, 7);
        x.snap(0, 0);
        x.snap(0, 0);
        x.snap(0, 0);
        x.erase(0, 0);
        due("21 one outside holds it", x.range(1, 2), 0);
        due("21 one outside holds it", x.range(2, 3), 0);
        due("21 none outside holds it", x.range(1, 3), 7);
        x.fork(2);
        due("21 a fork from within holds it", x.range(1, 3), 0);
        x.erase(4, 0);
        due("21 the fork holds it no more", x.range(1, 3), 7);
    }

    /** "NO: they are no such SNAPSHOTS." */
    private static void rangeOfNoSuch() {
        Edge edge = new Edge(CHECK, x -> {
            Samples.kinds(x);
            x.snap(5, 0);
        });
        edge.still("21 in the chain", x -> x.range(2, 3), 0);
        edge.still("21 in the fork's chain", x -> x.range(2, 6), 0);
        edge.still("21 beside one another", x -> x.range(3, 6), NO);
        edge.still("21 beside one another", x -> x.range(6, 3), NO);
        edge.still("21 to files", x -> x.range(2, 0), NO);
        edge.still("21 to a bookmark", x -> x.range(2, 4), NO);
        edge.still("21 from a bookmark", x -> x.range(4, 3), NO);
        edge.still("21 none such", x -> x.range(2, 7), NO);
        edge.still("21 none such", x -> x.range(7, 2), NO);
        edge.still("21 outside", x -> x.range(-1, 3), NO);
        edge.still("21 outside", x -> x.range(2, 20), NO);
        edge.still("21 outside", x -> x.range(Integer.MIN_VALUE, Integer.MAX_VALUE), NO);
    }

    /** "with a BIRTH after MADE of the other": one before it, at it, one after it. */
    private static void sinceByBirth() {
        DeadListPool x = new DeadListPool();
        x.files(NONE);
        x.tick();
        x.tick();
        for (int time = 3; time <= 6; time++) {
            x.write(0, time, 1 << time);
            x.tick();
        }
        x.snap(0, 0);
        due("22 made at 1: all", x.since(1, 0), 8 + 16 + 32 + 64);
        due("22 made at 7: none", x.since(1, 1), 0);
        DeadListPool y = new DeadListPool();
        y.files(NONE);
        for (int time = 1; time <= 5; time++) {
            y.write(0, time, 1 << time);
            if (time == 3) {
                y.snap(0, 0);
            } else {
                y.tick();
            }
        }
        due("22 born at 3 is not after 3", y.since(0, 1), 16 + 32);
        due("22 after a bookmark", y.since(0, y.mark(1)), 16 + 32);
        due("22 of the snapshot itself", y.since(1, 1), 0);
        due("22 files made at 1", y.since(0, 0), 4 + 8 + 16 + 32);
        due("22 files made now", y.since(0, y.files(NONE)), 0);
        due("22 a fork made now", y.since(y.fork(1), 1), 0);
    }

    /** "NO: no such THINGS, of is a BOOKMARK." */
    private static void sinceOfNoSuch() {
        Edge edge = kinds();
        edge.still("22 other is a bookmark", x -> x.since(0, 4), 19);
        edge.still("22 of is a bookmark", x -> x.since(4, 0), NO);
        edge.still("22 both are", x -> x.since(4, 4), NO);
        edge.still("22 none such", x -> x.since(6, 0), NO);
        edge.still("22 none such", x -> x.since(0, 6), NO);
        edge.still("22 outside", x -> x.since(20, 0), NO);
        edge.still("22 outside", x -> x.since(0, 20), NO);
        edge.still("22 outside", x -> x.since(-1, 0), NO);
        edge.still("22 outside", x -> x.since(0, -1), NO);
    }

    /** "SIZES of BLOCKS that two HOLD both. NO: no such THINGS, one is a BOOKMARK." */
    private static void commonOfNoneAndOfAll() {
        Edge edge = kinds();
        edge.still("23 none", x -> x.common(0, 1), 0);
        edge.still("23 some", x -> x.common(0, 3), 7);
        edge.still("23 all of one", x -> x.common(2, 5), 8);
        edge.still("23 with itself", x -> x.common(1, 1), 40);
        edge.still("23 first is a bookmark", x -> x.common(4, 0), NO);
        edge.still("23 second is a bookmark", x -> x.common(0, 4), NO);
        edge.still("23 none such", x -> x.common(6, 0), NO);
        edge.still("23 none such", x -> x.common(0, 6), NO);
        edge.still("23 outside", x -> x.common(20, 0), NO);
        edge.still("23 outside", x -> x.common(0, 20), NO);
        edge.still("23 outside", x -> x.common(-1, -1), NO);
        DeadListPool x = new DeadListPool();
        x.files(NONE);
        x.files(NONE);
        x.write(0, 0, 5);
        x.write(1, 0, 5);
        due("23 sizes alike in a slot are two blocks", x.common(0, 1), 0);
        due("23 two empty slots have nothing", x.common(0, x.files(NONE)), 0);
    }
}
