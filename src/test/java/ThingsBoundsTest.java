/** Promises 1 to 12 at the edges that their words name: each sentence has a test of its own. */
public final class ThingsBoundsTest {
    private static final int NONE = Check.NONE, BAD = Check.BAD, STATE = Check.STATE, FULL = Check.FULL;
    private static final int ABSENT = Check.ABSENT, OUTSIDE = Check.OUTSIDE, OTHER = Check.OTHER;
    private static final long NO = Check.NO;
    private static final int BILLION = 1000000000;
    private static final Check CHECK = new Check("ThingsBoundsTest");

    public static void main(String[] args) {
        emptyPoolChanges();
        emptyPoolAsks();
        newFiles();
        writtenAsked();
        erasedAsked();
        snapTagged();
        snapOfNoneAndOfAll();
        snapWhenFull();
        tagsOfZero();
        taggedAsked();
        markedMade();
        snapshotWithTags();
        snapshotWithTwoNext();
        snapshotWithNothingToFree();
        snapshotWithAllToFree();
        filesWithAnOwnSnapshot();
        filesWithAllSlots();
        bookmarksGo();
        removedNumbers();
        forkOfAnySnapshot();
        promoteWithoutOrigin();
        promoteAllOfAChain();
        rollbackWithoutPrev();
        rollbackOfNoneAndOfAll();
        rollbackToEmpty();
        lastTick();
        CHECK.end();
    }

    private static void due(String call, long got, long want) {
        CHECK.due(call, got, want);
    }

    /** "No thing, no block.": what changes a thing finds none, and changes nothing. */
    private static void emptyPoolChanges() {
        Edge edge = new Edge(CHECK, Samples::nothing);
        for (int of = 0; of < 20; of += 19) {
            int t = of;
            edge.still("1 write", x -> x.write(t, 0, 1), ABSENT);
            edge.still("1 erase", x -> x.erase(t, 0), ABSENT);
            edge.still("1 snap", x -> x.snap(t, 0), ABSENT);
            edge.still("1 tag", x -> x.tag(t, 0), ABSENT);
            edge.still("1 mark", x -> x.mark(t), ABSENT);
            edge.still("1 remove", x -> x.remove(t), ABSENT);
            edge.still("1 fork", x -> x.fork(t), ABSENT);
            edge.still("1 promote", x -> x.promote(t), ABSENT);
            edge.still("1 rollback", x -> x.rollback(t), ABSENT);
            edge.still("1 expire", x -> x.expire(t, 0, 1), ABSENT);
            edge.still("1 differ", x -> x.differ(0, t, t), ABSENT);
            edge.still("1 apply", x -> x.apply(t, 0, 0), ABSENT);
        }
        edge.still("1 back", x -> x.back(), STATE);
        edge.moves("1 files", x -> x.files(NONE), 0);
        edge.moves("1 tick", x -> x.tick(), 2);
        edge.moves("1 image", x -> x.image(), 0);
        edge.moves("1 sheet", x -> x.sheet(0, 0, 0), 1);
    }

    private static void emptyPoolAsks() {
        Edge edge = new Edge(CHECK, Samples::nothing);
        edge.still("1 told", x -> x.told(0, 0), ABSENT);
        edge.still("1 slot", x -> x.slot(0, 0), ABSENT);
        edge.still("1 block", x -> x.block(0, 0), ABSENT);
        edge.still("1 taken", x -> x.taken(0, 0), ABSENT);
        edge.still("1 dead", x -> x.dead(0, 0), ABSENT);
        edge.still("1 deadList", x -> x.deadList(0, 0), NO);
        edge.still("1 space", x -> x.space(0), NO);
        edge.still("1 alone", x -> x.alone(0), NO);
        edge.still("1 range", x -> x.range(0, 0), NO);
        edge.still("1 since", x -> x.since(0, 0), NO);
        edge.still("1 common", x -> x.common(0, 0), NO);
        edge.still("1 most", x -> x.most(0, 0), NO);
        edge.still("1 fewest", x -> x.fewest(0, 0), ABSENT);
        edge.still("1 things", x -> x.count(0), 0);
        edge.still("1 blocks", x -> x.count(1), 0);
        edge.still("1 time", x -> x.count(2), 1);
        edge.still("1 freed", x -> x.count(3), 0);
        edge.still("1 sizes", x -> x.drawn(0, 0, 3), 0);
    }

    /** "FILES, all SLOTS EMPTY, no PREV (quota NONE), or BOUND ones". */
    private static void newFiles() {
        int[] quotas = {NONE, 0, BILLION};
        for (int quota : quotas) {
            DeadListPool x = new DeadListPool();
            Samples.kinds(x);
            due("2 number", x.files(quota), 6);
            due("2 kind", x.told(6, 0), quota == NONE ? 0 : 1);
            due("2 made now", x.told(6, 1), x.count(2));
            due("2 no prev", x.told(6, 2), NONE);
            due("2 no own", x.told(6, 9), 0);
            due("2 all empty", x.told(6, 6), 0);
            due("2 all empty", x.space(6), 0);
        }
    }

    /** "BAD: slot, size; ASKED FILES; FULL." */
    private static void writtenAsked() {
        Edge edge = new Edge(CHECK, Samples::kinds);
        edge.moves("3 FILES", x -> x.write(0, 3, 1), 5);
        edge.moves("3 BOUND", x -> x.write(1, 3, 1), 5);
        edge.moves("3 a fork", x -> x.write(5, 3, 1), 5);
        edge.still("3 SNAPSHOT", x -> x.write(2, 3, 1), OTHER);
        edge.still("3 TAGGED", x -> x.write(3, 3, 1), OTHER);
        edge.still("3 BOOKMARK", x -> x.write(4, 3, 1), OTHER);
        edge.still("3 none such", x -> x.write(6, 3, 1), ABSENT);
        edge.still("3 outside", x -> x.write(20, 3, 1), OUTSIDE);
        edge.still("3 outside", x -> x.write(-1, 3, 1), OUTSIDE);
    }

    /** "ERASED: the number of the BLOCK that was there; NONE. BAD: slot; ASKED FILES." */
    private static void erasedAsked() {
        Edge edge = new Edge(CHECK, Samples::kinds);
        edge.moves("4 FILES", x -> x.erase(0, 2), 6);
        edge.moves("4 BOUND", x -> x.erase(1, 0), 2);
        edge.moves("4 number 0", x -> x.erase(5, 0), 0);
        edge.still("4 NONE", x -> x.erase(1, 11), NONE);
        edge.still("4 SNAPSHOT", x -> x.erase(2, 0), OTHER);
        edge.still("4 TAGGED", x -> x.erase(3, 0), OTHER);
        edge.still("4 BOOKMARK", x -> x.erase(4, 0), OTHER);
        edge.still("4 none such", x -> x.erase(6, 0), ABSENT);
        edge.still("4 outside", x -> x.erase(20, 0), OUTSIDE);
    }

    /** "A new SNAPSHOT (tagged 0), TAGGED one (1) of FILES". */
    private static void snapTagged() {
        Edge edge = new Edge(CHECK, Samples::kinds);
        int[] bad = {-1, 2, Integer.MIN_VALUE, Integer.MAX_VALUE};
        for (int tagged : bad) {
            edge.still("5 tagged " + tagged, x -> x.snap(0, tagged), BAD);
        }
        for (int tagged = 0; tagged <= 1; tagged++) {
            DeadListPool x = edge.fresh();
            int now = x.count(2);
            due("5 number", x.snap(0, tagged), 6);
            due("5 kind", x.told(6, 0), 2 + tagged);
            due("5 tags", x.told(6, 7), tagged);
            due("5 made now", x.told(6, 1), now);
            due("5 time is 1 more", x.count(2), now + 1);
            due("5 prev of these", x.told(6, 2), 3);
            due("5 it is their prev then", x.told(0, 2), 6);
            due("5 they own it", x.told(6, 3), 0);
        }
    }

    /** "with the SLOTS and PREV of these": no slot, all slots; no PREV. */
    private static void snapOfNoneAndOfAll() {
        DeadListPool x = new DeadListPool();
        x.files(NONE);
        due("5 of empty ones", x.snap(0, 0), 1);
        due("5 holds none", x.told(1, 6), 0);
        due("5 no prev", x.told(1, 2), NONE);
        for (int slot = 0; slot < 12; slot++) {
            x.write(0, slot, 1);
        }
        due("5 of full ones", x.snap(0, 0), 2);
        due("5 holds all", x.told(2, 6), 12);
        due("5 all in common", x.common(0, 2), 12);
        due("5 the earlier one holds none still", x.told(1, 6), 0);
        due("5 a snapshot right behind a snapshot", x.snap(0, 0), 3);
        due("5 holds all", x.told(3, 6), 12);
        due("5 nothing died", x.dead(3, 0), 0);
    }

    /** "FULL": TIME, PREV and the numbers stay. */
    private static void snapWhenFull() {
        Edge edge = new Edge(CHECK, Samples::twentyThings);
        edge.still("5 full", x -> x.snap(0, 0), FULL);
        edge.still("5 full, tagged", x -> x.snap(0, 1), FULL);
        edge.still("5 full, of bound ones", x -> x.snap(1, 0), FULL);
        edge.still("5 tagged ahead of full", x -> x.snap(0, 2), BAD);
        edge.still("5 asked ahead of full", x -> x.snap(2, 0), OTHER);
    }

    /** "(with 0 it is one still)". */
    private static void tagsOfZero() {
        DeadListPool x = new DeadListPool();
        Samples.kinds(x);
        due("6 to 0", x.tag(3, 0), 1);
        due("6 it is one still", x.told(3, 0), 3);
        due("6 it is one still", x.taken(3, 3), 2);
        due("6 from 0", x.tag(3, 9), 0);
        due("6 from 9", x.tag(3, 9), 9);
        due("6 kept", x.told(3, 7), 9);
    }

    /** "ASKED a TAGGED one." */
    private static void taggedAsked() {
        Edge edge = new Edge(CHECK, Samples::kinds);
        edge.moves("6 TAGGED", x -> x.tag(3, 0), 1);
        edge.still("6 FILES", x -> x.tag(0, 0), OTHER);
        edge.still("6 BOUND", x -> x.tag(1, 0), OTHER);
        edge.still("6 SNAPSHOT", x -> x.tag(2, 1), OTHER);
        edge.still("6 BOOKMARK", x -> x.tag(4, 0), OTHER);
        edge.still("6 none such", x -> x.tag(6, 0), ABSENT);
        edge.still("6 outside", x -> x.tag(20, 0), OUTSIDE);
        edge.still("6 v ahead of asked", x -> x.tag(20, 10), BAD);
    }

    /** "A BOOKMARK with MADE of a SNAPSHOT": kept when that one goes. */
    private static void markedMade() {
        Edge edge = new Edge(CHECK, Samples::kinds);
        edge.moves("7 SNAPSHOT", x -> x.mark(2), 6);
        edge.moves("7 TAGGED", x -> x.mark(3), 6);
        edge.still("7 FILES", x -> x.mark(0), OTHER);
        edge.still("7 BOUND", x -> x.mark(1), OTHER);
        edge.still("7 BOOKMARK", x -> x.mark(4), OTHER);
        DeadListPool x = edge.fresh();
        x.mark(3);
        due("7 made of the snapshot", x.told(6, 1), 2);
        due("7 time stands", x.count(2), 4);
        x.tag(3, 0);
        due("7 the snapshot goes", x.remove(3), 0);
        due("7 made is kept", x.told(6, 1), 2);
        due("7 it holds nothing", x.told(6, 6), 0);
        due("7 after it", x.since(0, 6), 12);
        new Edge(CHECK, Samples::twentyThings).still("7 full", y -> y.mark(2), FULL);
    }

    /** "a SNAPSHOT is REMOVED (STATE: TAGS aren't 0 ..". */
    private static void snapshotWithTags() {
        for (int v = 0; v <= 9; v++) {
            int tags = v;
            Edge edge = new Edge(CHECK, x -> {
                Samples.kinds(x);
                x.tag(3, tags);
            });
            if (v == 0) {
                edge.moves("8 no tags", x -> x.remove(3), 0);
            } else {
                edge.still("8 tags " + v, x -> x.remove(3), STATE);
            }
        }
    }

    /** ".. it has two NEXT or more)". */
    private static void snapshotWithTwoNext() {
        Edge edge = new Edge(CHECK, Samples::kinds);
        edge.still("8 two next", x -> x.remove(2), STATE);
        DeadListPool x = edge.fresh();
        x.fork(2);
        due("8 three next", x.remove(2), STATE);
        x.remove(6);
        due("8 two next", x.remove(2), STATE);
        x.remove(5);
        due("8 one next", x.told(2, 5), 1);
        due("8 one next", x.remove(2), 1);
        DeadListPool y = edge.fresh();
        due("8 a bookmark of it is no next", y.remove(5), 1);
        due("8 a bookmark of it is no next", y.remove(2), 1);
        due("8 the bookmark stays", y.told(4, 1), 1);
        Edge both = new Edge(CHECK, z -> {
            Samples.kinds(z);
            z.fork(3);
        });
        both.still("8 tags and two next", z -> z.remove(3), STATE);
    }

    /** "how many BLOCKS were FREED": none. */
    private static void snapshotWithNothingToFree() {
        Edge edge = new Edge(CHECK, x -> {
            x.files(NONE);
            x.snap(0, 0);
            x.write(0, 0, 5);
            x.snap(0, 0);
            x.snap(0, 0);
        });
        edge.moves("8 holds none", x -> x.remove(1), 0);
        edge.moves("8 its next holds all", x -> x.remove(2), 0);
        edge.moves("8 files hold all", x -> x.remove(3), 0);
        DeadListPool x = edge.fresh();
        x.erase(0, 0);
        due("8 its prev holds all", x.remove(3), 0);
        due("8 none holds it then", x.remove(2), 1);
    }

    /** "how many BLOCKS were FREED": all twelve. */
    private static void snapshotWithAllToFree() {
        DeadListPool x = new DeadListPool();
        x.files(NONE);
        for (int slot = 0; slot < 12; slot++) {
            x.write(0, slot, 1);
        }
        x.snap(0, 0);
        for (int slot = 0; slot < 12; slot++) {
            x.erase(0, slot);
        }
        due("8 none goes ahead", x.count(3), 0);
        due("8 all go", x.remove(1), 12);
        due("8 all went", x.count(3), 12);
        due("8 none is left", x.count(1), 0);
    }

    /** "FILES are there no more (STATE: they have an OWN SNAPSHOT)". */
    private static void filesWithAnOwnSnapshot() {
        Edge edge = new Edge(CHECK, Samples::kinds);
        edge.still("8 two own", x -> x.remove(0), STATE);
        edge.moves("8 no own, no chain", x -> x.remove(1), 1);
        edge.moves("8 no own, in a chain", x -> x.remove(5), 1);
        DeadListPool x = edge.fresh();
        x.tag(3, 0);
        x.remove(3);
        due("8 one own", x.told(0, 9), 1);
        due("8 one own", x.remove(0), STATE);
        due("8 promoted away", x.promote(5), 1);
        due("8 none own", x.told(0, 9), 0);
        due("8 none own", x.remove(0), 2);
        due("8 now the fork owns", x.remove(5), STATE);
        new Edge(CHECK, y -> {
            y.files(7);
            y.snap(0, 0);
        }).still("8 bound ones with one", y -> y.remove(0), STATE);
    }

    private static void filesWithAllSlots() {
        DeadListPool x = new DeadListPool();
        x.files(NONE);
        x.files(12);
        for (int slot = 0; slot < 12; slot++) {
            x.write(0, slot, 1);
            x.write(1, slot, 1);
        }
        due("8 all go", x.remove(0), 12);
        due("8 bound ones' all go", x.remove(1), 12);
        due("8 nothing is left", x.count(0), 0);
        due("8 nothing is left", x.count(1), 0);
        due("8 all went", x.count(3), 24);
    }

    /** "A BOOKMARK is there no more". */
    private static void bookmarksGo() {
        Edge edge = new Edge(CHECK, Samples::kinds);
        edge.moves("8 bookmark", x -> x.remove(4), 0);
        DeadListPool x = edge.fresh();
        x.remove(4);
        due("8 bookmark is gone", x.told(4, 0), ABSENT);
        due("8 things", x.count(0), 5);
        due("8 freed", x.count(3), 1);
        due("8 its number", x.mark(3), 4);
    }

    /** "-12; -11; STATE." */
    private static void removedNumbers() {
        Edge edge = new Edge(CHECK, Samples::twentyThings);
        edge.still("8 number 20", x -> x.remove(20), OUTSIDE);
        edge.still("8 number -1", x -> x.remove(-1), OUTSIDE);
        edge.still("8 least number", x -> x.remove(Integer.MIN_VALUE), OUTSIDE);
        edge.still("8 greatest number", x -> x.remove(Integer.MAX_VALUE), OUTSIDE);
        edge.moves("8 number 19", x -> x.remove(19), 0);
        Edge few = new Edge(CHECK, Samples::kinds);
        few.still("8 number 6", x -> x.remove(6), ABSENT);
        few.still("8 number 19, none", x -> x.remove(19), ABSENT);
    }

    /** "New FILES with the SLOTS of a SNAPSHOT, which is their PREV". */
    private static void forkOfAnySnapshot() {
        Edge edge = new Edge(CHECK, Samples::kinds);
        edge.moves("9 SNAPSHOT", x -> x.fork(2), 6);
        edge.moves("9 TAGGED", x -> x.fork(3), 6);
        edge.still("9 FILES", x -> x.fork(0), OTHER);
        edge.still("9 BOUND", x -> x.fork(1), OTHER);
        edge.still("9 BOOKMARK", x -> x.fork(4), OTHER);
        edge.still("9 none such", x -> x.fork(6), ABSENT);
        edge.still("9 outside", x -> x.fork(20), OUTSIDE);
        Edge full = new Edge(CHECK, Samples::twentyThings);
        full.still("9 full", x -> x.fork(2), FULL);
        full.still("9 asked ahead of full", x -> x.fork(4), OTHER);
        DeadListPool x = edge.fresh();
        x.snap(1, 0);
        due("9 of bound ones' snapshot", x.fork(6), 7);
        due("9 not bound", x.told(7, 8), NONE);
        due("9 not bound", x.write(7, 1, BILLION), 5);
        due("9 made now", x.told(7, 1), x.count(2));
        due("9 the slots of the snapshot", x.slot(7, 0), 2);
        due("9 prev", x.told(7, 2), 6);
    }

    /** "STATE: no ORIGIN." */
    private static void promoteWithoutOrigin() {
        Edge edge = new Edge(CHECK, Samples::kinds);
        edge.still("10 all are own", x -> x.promote(0), STATE);
        edge.still("10 no chain", x -> x.promote(1), STATE);
        edge.moves("10 a fork", x -> x.promote(5), 1);
        edge.still("10 SNAPSHOT", x -> x.promote(2), OTHER);
        edge.still("10 TAGGED", x -> x.promote(3), OTHER);
        edge.still("10 BOOKMARK", x -> x.promote(4), OTHER);
        Edge once = new Edge(CHECK, x -> {
            Samples.kinds(x);
            x.promote(5);
        });
        once.still("10 twice", x -> x.promote(5), STATE);
        once.moves("10 the former owner has one now", x -> x.promote(0), 1);
    }

    /** "the SNAPSHOTS of their CHAIN that the OWNER of their ORIGIN owned: how many": from one to all. */
    private static void promoteAllOfAChain() {
        for (int k = 1; k <= 18; k++) {
            DeadListPool x = new DeadListPool();
            Samples.chain(x, 18);
            due("10 fork", x.fork(k), 19);
            due("10 how many", x.promote(19), k);
            due("10 own", x.told(19, 9), k);
            due("10 left", x.told(0, 9), 18 - k);
            due("10 the origin's owner", x.told(k, 3), 19);
            due("10 origin of the former owner", x.told(0, 4), k);
        }
    }

    /** "STATE: no PREV." */
    private static void rollbackWithoutPrev() {
        Edge edge = new Edge(CHECK, Samples::kinds);
        edge.still("11 no prev", x -> x.rollback(1), STATE);
        edge.still("11 SNAPSHOT", x -> x.rollback(3), OTHER);
        edge.still("11 BOOKMARK", x -> x.rollback(4), OTHER);
        edge.moves("11 a prev", x -> x.rollback(0), 1);
        DeadListPool x = new DeadListPool();
        x.files(NONE);
        x.write(0, 0, 1);
        x.snap(0, 0);
        x.remove(1);
        due("11 the prev is gone", x.rollback(0), STATE);
    }

    /** "SLOTS of FILES are as those of their PREV: how many BLOCKS were FREED": none, all. */
    private static void rollbackOfNoneAndOfAll() {
        Everything.Run run = x -> {
            x.files(NONE);
            for (int slot = 0; slot < 12; slot++) {
                x.write(0, slot, 1);
            }
            x.snap(0, 0);
        };
        Edge edge = new Edge(CHECK, run);
        edge.still("11 as they are", x -> x.rollback(0), 0);
        DeadListPool x = edge.fresh();
        for (int slot = 0; slot < 12; slot++) {
            x.erase(0, slot);
        }
        due("11 none is freed", x.rollback(0), 0);
        due("11 all are back", x.common(0, 1), 12);
        for (int slot = 0; slot < 12; slot++) {
            x.write(0, slot, 2);
        }
        due("11 all are freed", x.rollback(0), 12);
        due("11 all are back", x.common(0, 1), 12);
        due("11 freed", x.count(3), 12);
    }

    private static void rollbackToEmpty() {
        DeadListPool x = new DeadListPool();
        x.files(NONE);
        x.snap(0, 0);
        x.write(0, 11, 2);
        due("11 freed", x.rollback(0), 1);
        due("11 empty", x.told(0, 6), 0);
        due("11 time and prev stay", x.told(0, 2), 1);
        due("11 time and prev stay", x.count(2), 2);
    }

    /** "STATE: it is 100000 or more." (Only an object used for more than 512 calls gets there.) */
    private static void lastTick() {
        DeadListPool x = new DeadListPool();
        for (int time = 2; time <= 99999; time++) {
            x.tick();
        }
        due("12 one below", x.count(2), 99999);
        due("12 the last", x.tick(), 100000);
        due("12 at it", x.tick(), STATE);
        due("12 stands", x.count(2), 100000);
        x.files(NONE);
        x.snap(0, 0);
        due("5 a snapshot goes on", x.count(2), 100001);
        due("12 above it", x.tick(), STATE);
        due("12 stands", x.count(2), 100001);
    }
}
