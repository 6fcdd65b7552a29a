/** Promises 1 to 12: a new object, and the calls that change what there is. */
public final class ThingsTest {
    private static final int NONE = Check.NONE, BAD = Check.BAD, STATE = Check.STATE, FULL = Check.FULL;
    private static final int ABSENT = Check.ABSENT, OUTSIDE = Check.OUTSIDE, OTHER = Check.OTHER;
    private static final int BILLION = 1000000000;
    private static final Check CHECK = new Check("ThingsTest");

    public static void main(String[] args) {
        newObject();
        files();
        write();
        writeWhenFull();
        writeWithinQuota();
        erase();
        snap();
        tag();
        mark();
        removeSnapshot();
        removeFiles();
        removeBookmark();
        numberTakenAnew();
        fork();
        promote();
        promoteAlongOwners();
        rollback();
        tick();
        CHECK.end();
    }

    private static void due(String call, long got, long want) {
        CHECK.due(call, got, want);
    }

    private static void newObject() {
        DeadListPool x = new DeadListPool();
        due("1 things", x.count(0), 0);
        due("1 blocks", x.count(1), 0);
        due("1 time", x.count(2), 1);
        due("1 freed", x.count(3), 0);
        for (int of = 0; of < 20; of++) {
            due("1 told", x.told(of, 0), ABSENT);
        }
        for (int b = 0; b < 96; b++) {
            due("1 block", x.block(b, 0), ABSENT);
        }
        for (int i = 0; i < 4; i++) {
            due("1 sheet", x.cell(i, 0, 1), ABSENT);
        }
        due("1 back", x.back(), STATE);
    }

    private static void files() {
        DeadListPool x = new DeadListPool();
        due("2 below", x.files(-2), BAD);
        due("2 above", x.files(BILLION + 1), BAD);
        due("2 least", x.files(Integer.MIN_VALUE), BAD);
        due("2 greatest", x.files(Integer.MAX_VALUE), BAD);
        due("2 no thing", x.count(0), 0);
        due("2 plain", x.files(NONE), 0);
        due("2 bound 0", x.files(0), 1);
        x.tick();
        due("2 bound most", x.files(BILLION), 2);
        due("2 kind", x.told(0, 0), 0);
        due("2 kind", x.told(1, 0), 1);
        due("2 quota", x.told(0, 8), NONE);
        due("2 quota", x.told(1, 8), 0);
        due("2 quota", x.told(2, 8), BILLION);
        due("2 made", x.told(1, 1), 1);
        due("2 made", x.told(2, 1), 2);
        due("2 prev", x.told(2, 2), NONE);
        for (int slot = 0; slot < 12; slot++) {
            due("2 empty", x.slot(2, slot), NONE);
        }
        due("2 least number", x.remove(1), 0);
        due("2 least number", x.files(NONE), 1);
        due("2 quota is gone", x.told(1, 8), NONE);
        for (int of = 3; of < 20; of++) {
            due("2 number", x.files(NONE), of);
        }
        due("2 full", x.files(NONE), FULL);
        due("2 full, bound", x.files(5), FULL);
        due("2 bad ahead of full", x.files(-2), BAD);
        due("2 twenty", x.count(0), 20);
    }

    private static void write() {
        DeadListPool x = new DeadListPool();
        x.files(NONE);
        x.snap(0, 0);
        x.mark(1);
        due("3 slot", x.write(0, -1, 1), BAD);
        due("3 slot", x.write(0, 12, 1), BAD);
        due("3 size", x.write(0, 0, 0), BAD);
        due("3 size", x.write(0, 0, -1), BAD);
        due("3 size", x.write(0, 0, BILLION + 1), BAD);
        due("3 bad ahead of asked", x.write(20, 12, 1), BAD);
        due("3 bad ahead of asked", x.write(7, 0, 0), BAD);
        due("3 outside", x.write(-1, 0, 1), OUTSIDE);
        due("3 outside", x.write(20, 0, 1), OUTSIDE);
        due("3 absent", x.write(19, 0, 1), ABSENT);
        due("3 snapshot", x.write(1, 0, 1), OTHER);
        due("3 bookmark", x.write(2, 0, 1), OTHER);
        due("3 nothing changed", x.count(1), 0);
        due("3 first", x.write(0, 0, 1), 0);
        due("3 last slot, most size", x.write(0, 11, BILLION), 1);
        due("3 size told", x.block(1, 0), BILLION);
        due("3 birth", x.block(1, 1), 2);
        due("3 slot told", x.slot(0, 11), 1);
        due("3 taken ahead of the old one's end", x.write(0, 0, 3), 2);
        due("3 freed", x.block(0, 0), ABSENT);
        due("3 freed count", x.count(3), 1);
        due("3 least number", x.write(0, 5, 4), 0);
        x.snap(0, 0);
        due("3 held by a snapshot", x.write(0, 5, 9), 3);
        due("3 stays", x.block(0, 0), 4);
        due("3 freed count stays", x.count(3), 1);
    }

    private static void writeWhenFull() {
        DeadListPool x = new DeadListPool();
        for (int of = 0; of < 9; of++) {
            x.files(NONE);
        }
        for (int b = 0; b < 96; b++) {
            due("3 number", x.write(b / 12, b % 12, 1 + b), b);
        }
        due("3 blocks", x.count(1), 96);
        due("3 full", x.write(8, 0, 1), FULL);
        due("3 full over one of its own", x.write(0, 0, 1), FULL);
        due("3 old one stays", x.slot(0, 0), 0);
        due("3 bad ahead of full", x.write(8, 12, 1), BAD);
        due("3 asked ahead of full", x.write(9, 0, 1), ABSENT);
        due("4 erase", x.erase(3, 7), 43);
        due("3 room again", x.write(8, 0, 1), 43);
        due("3 full again", x.write(8, 1, 1), FULL);
    }

    private static void writeWithinQuota() {
        DeadListPool x = new DeadListPool();
        x.files(10);
        x.files(0);
        due("3 none at 0", x.write(1, 0, 1), FULL);
        due("3 above", x.write(0, 0, 11), FULL);
        due("3 at it", x.write(0, 0, 10), 0);
        due("3 above by 1", x.write(0, 1, 1), FULL);
        due("3 in its place", x.write(0, 0, 7), 1);
        due("3 beside", x.write(0, 1, 3), 0);
        due("3 huge", x.write(0, 0, BILLION), FULL);
        x.snap(0, 0);
        x.erase(0, 0);
        due("3 what only a snapshot holds is no space", x.write(0, 2, 7), 2);
        due("3 forks are not bound", x.write(x.fork(2), 0, 50), 3);
        DeadListPool y = new DeadListPool();
        y.files(BILLION);
        due("3 most", y.write(0, 0, BILLION), 0);
        due("3 no wrap-around", y.write(0, 1, BILLION), FULL);
    }

    private static void erase() {
        DeadListPool x = new DeadListPool();
        x.files(8);
        x.write(0, 3, 5);
        x.snap(0, 0);
        x.mark(1);
        x.write(0, 4, 1);
        due("4 slot", x.erase(0, -1), BAD);
        due("4 slot", x.erase(0, 12), BAD);
        due("4 bad ahead of asked", x.erase(20, 12), BAD);
        due("4 outside", x.erase(20, 0), OUTSIDE);
        due("4 outside", x.erase(-1, 0), OUTSIDE);
        due("4 absent", x.erase(3, 0), ABSENT);
        due("4 snapshot", x.erase(1, 3), OTHER);
        due("4 bookmark", x.erase(2, 3), OTHER);
        due("4 empty", x.erase(0, 0), NONE);
        due("4 held elsewhere", x.erase(0, 3), 0);
        due("4 not freed", x.count(3), 0);
        due("4 snapshot has it", x.slot(1, 3), 0);
        due("4 files have not", x.slot(0, 3), NONE);
        due("4 alone", x.erase(0, 4), 1);
        due("4 freed", x.count(3), 1);
        due("4 there no more", x.block(1, 0), ABSENT);
        due("4 again", x.erase(0, 4), NONE);
    }

    private static void snap() {
        DeadListPool x = new DeadListPool();
        x.files(NONE);
        x.write(0, 2, 6);
        due("5 tagged", x.snap(0, -1), BAD);
        due("5 tagged", x.snap(0, 2), BAD);
        due("5 bad ahead of asked", x.snap(20, 2), BAD);
        due("5 outside", x.snap(20, 0), OUTSIDE);
        due("5 absent", x.snap(1, 0), ABSENT);
        due("5 time", x.count(2), 1);
        due("5 number", x.snap(0, 0), 1);
        due("5 time", x.count(2), 2);
        due("5 of a snapshot", x.snap(1, 0), OTHER);
        due("5 tagged one", x.snap(0, 1), 2);
        due("5 kind", x.told(1, 0), 2);
        due("5 kind", x.told(2, 0), 3);
        due("5 tags", x.told(1, 7), 0);
        due("5 tags", x.told(2, 7), 1);
        due("5 made", x.told(1, 1), 1);
        due("5 made", x.told(2, 1), 2);
        due("5 prev", x.told(1, 2), NONE);
        due("5 prev", x.told(2, 2), 1);
        due("5 prev of files", x.told(0, 2), 2);
        due("5 owner", x.told(2, 3), 0);
        due("5 slot", x.slot(2, 2), 0);
        due("5 slot", x.slot(2, 3), NONE);
        due("5 holders", x.block(0, 2), 3);
        x.mark(1);
        due("5 of a bookmark", x.snap(3, 0), OTHER);
        for (int of = 4; of < 20; of++) {
            due("5 number", x.snap(0, 0), of);
        }
        due("5 full", x.snap(0, 0), FULL);
        due("5 full", x.snap(0, 1), FULL);
        due("5 time stands", x.count(2), 19);
        due("5 asked ahead of full", x.snap(1, 0), OTHER);
    }

    private static void tag() {
        DeadListPool x = new DeadListPool();
        x.files(NONE);
        x.snap(0, 1);
        x.snap(0, 0);
        x.mark(1);
        due("6 v", x.tag(1, -1), BAD);
        due("6 v", x.tag(1, 10), BAD);
        due("6 bad ahead of asked", x.tag(20, 10), BAD);
        due("6 outside", x.tag(20, 0), OUTSIDE);
        due("6 absent", x.tag(9, 0), ABSENT);
        due("6 files", x.tag(0, 0), OTHER);
        due("6 snapshot", x.tag(2, 0), OTHER);
        due("6 bookmark", x.tag(3, 0), OTHER);
        due("6 was 1", x.tag(1, 9), 1);
        due("6 was 9", x.tag(1, 0), 9);
        due("6 tagged still", x.told(1, 0), 3);
        due("6 was 0", x.tag(1, 4), 0);
        due("6 told", x.told(1, 7), 4);
    }

    private static void mark() {
        DeadListPool x = new DeadListPool();
        x.files(NONE);
        x.snap(0, 0);
        x.snap(0, 1);
        x.tick();
        due("7 of files", x.mark(0), OTHER);
        due("7 outside", x.mark(-1), OUTSIDE);
        due("7 absent", x.mark(3), ABSENT);
        due("7 of a snapshot", x.mark(1), 3);
        due("7 of a tagged one", x.mark(2), 4);
        due("7 of a bookmark", x.mark(3), OTHER);
        due("7 kind", x.told(4, 0), 4);
        due("7 made", x.told(3, 1), 1);
        due("7 made", x.told(4, 1), 2);
        due("7 is no next", x.told(2, 5), 1);
        due("7 no prev", x.told(4, 2), NONE);
        for (int of = 5; of < 20; of++) {
            due("7 number", x.mark(1), of);
        }
        due("7 full", x.mark(1), FULL);
        due("7 asked ahead of full", x.mark(0), OTHER);
    }

    private static void removeSnapshot() {
        DeadListPool x = new DeadListPool();
        x.files(NONE);
        x.write(0, 0, 1);
        x.write(0, 1, 2);
        x.write(0, 2, 4);
        x.snap(0, 0);
        x.erase(0, 0);
        x.write(0, 3, 8);
        x.snap(0, 1);
        x.erase(0, 1);
        x.erase(0, 3);
        x.write(0, 4, 16);
        due("8 tags", x.remove(2), STATE);
        x.tag(2, 0);
        due("8 fork", x.fork(2), 3);
        due("8 two next", x.remove(2), STATE);
        due("8 fork removed", x.remove(3), 0);
        due("8 only what is dead in the next and younger than the prev", x.remove(2), 1);
        due("8 number is bare", x.told(2, 0), ABSENT);
        due("8 older is held still", x.block(1, 2), 1);
        due("8 younger is gone", x.block(3, 0), ABSENT);
        due("8 prev of the next", x.told(0, 2), 1);
        due("8 both that died at last", x.remove(1), 2);
        due("8 prev of the next", x.told(0, 2), NONE);
        due("8 freed", x.count(3), 3);
        due("8 blocks", x.count(1), 2);
        due("8 outside", x.remove(20), OUTSIDE);
        due("8 outside", x.remove(-1), OUTSIDE);
        due("8 absent", x.remove(1), ABSENT);
    }

    private static void removeFiles() {
        DeadListPool x = new DeadListPool();
        x.files(NONE);
        x.write(0, 0, 1);
        x.write(0, 1, 2);
        x.snap(0, 0);
        due("8 own snapshot", x.remove(0), STATE);
        due("8 fork", x.fork(1), 2);
        x.write(2, 0, 4);
        x.write(2, 5, 8);
        due("8 what the fork alone holds", x.remove(2), 2);
        due("8 the origin's stay", x.count(1), 2);
        due("8 one next again", x.told(1, 5), 1);
        x.fork(1);
        x.promote(2);
        due("8 has no own one any more", x.remove(0), 0);
        due("8 its number is bare", x.slot(0, 0), ABSENT);
        due("8 the other owns now", x.remove(2), STATE);
        due("8 held by the next", x.remove(1), 0);
        due("8 bare of own ones", x.remove(2), 2);
        due("8 nothing left", x.count(1), 0);
        due("8 bound ones too", x.remove(x.files(9)), 0);
    }

    private static void removeBookmark() {
        DeadListPool x = new DeadListPool();
        x.files(NONE);
        x.write(0, 0, 1);
        x.snap(0, 1);
        x.mark(1);
        due("8 bookmark", x.remove(2), 0);
        due("8 bookmark is gone", x.remove(2), ABSENT);
        due("8 things", x.count(0), 2);
    }

    /** Nothing of the thing that had a number before shows in the one that has it now. */
    private static void numberTakenAnew() {
        DeadListPool x = new DeadListPool();
        x.files(NONE);
        x.write(0, 0, 1);
        x.snap(0, 1);
        x.tag(1, 0);
        x.snap(0, 1);
        x.tag(2, 0);
        due("8 tagged one removed", x.remove(1), 0);
        due("2 in its place", x.files(NONE), 1);
        due("2 kind", x.told(1, 0), 0);
        due("2 prev", x.told(1, 2), NONE);
        due("2 owner", x.told(1, 3), NONE);
        due("2 tags", x.told(1, 7), 0);
        due("2 empty", x.slot(1, 0), NONE);
        due("2 own", x.told(0, 9), 1);
        due("2 bound", x.files(5), 3);
        x.remove(3);
        due("9 in its place", x.fork(2), 3);
        due("9 kind", x.told(3, 0), 0);
        due("9 quota", x.told(3, 8), NONE);
        x.remove(3);
        due("7 in its place", x.mark(2), 3);
        due("7 no prev", x.told(3, 2), NONE);
        due("7 holds none", x.told(3, 6), 0);
        due("15 holders", x.block(0, 2), 2);
    }

    private static void fork() {
        DeadListPool x = new DeadListPool();
        x.files(40);
        x.write(0, 7, 3);
        x.snap(0, 1);
        x.tick();
        due("9 of files", x.fork(0), OTHER);
        due("9 outside", x.fork(20), OUTSIDE);
        due("9 absent", x.fork(2), ABSENT);
        due("9 number", x.fork(1), 2);
        due("9 kind", x.told(2, 0), 0);
        due("9 quota", x.told(2, 8), NONE);
        due("9 made", x.told(2, 1), 3);
        due("9 prev", x.told(2, 2), 1);
        due("9 origin", x.told(2, 4), 1);
        due("9 own", x.told(2, 9), 0);
        due("9 owner stays", x.told(1, 3), 0);
        due("9 slot", x.slot(2, 7), 0);
        due("9 next", x.told(1, 5), 2);
        due("9 time stands", x.count(2), 3);
        x.mark(1);
        due("9 of a bookmark", x.fork(3), OTHER);
        for (int of = 4; of < 20; of++) {
            due("9 number", x.fork(1), of);
        }
        due("9 full", x.fork(1), FULL);
        due("9 asked ahead of full", x.fork(0), OTHER);
    }

    private static void promote() {
        DeadListPool x = new DeadListPool();
        x.files(NONE);
        x.snap(0, 0);
        x.snap(0, 0);
        x.snap(0, 0);
        due("10 no origin", x.promote(0), STATE);
        due("10 outside", x.promote(20), OUTSIDE);
        due("10 absent", x.promote(4), ABSENT);
        due("10 snapshot", x.promote(1), OTHER);
        due("10 fork", x.fork(2), 4);
        due("10 number", x.promote(4), 2);
        due("10 owner", x.told(1, 3), 4);
        due("10 owner", x.told(2, 3), 4);
        due("10 owner of the later", x.told(3, 3), 0);
        due("10 own", x.told(4, 9), 2);
        due("10 own", x.told(0, 9), 1);
        due("10 origin", x.told(4, 4), NONE);
        due("10 origin", x.told(0, 4), 2);
        due("10 prev stays", x.told(0, 2), 3);
        due("10 again", x.promote(4), STATE);
        due("10 back", x.promote(0), 2);
        due("10 time stands", x.count(2), 4);
    }

    private static void promoteAlongOwners() {
        DeadListPool x = new DeadListPool();
        x.files(NONE);
        x.snap(0, 0);
        x.fork(1);
        x.snap(2, 0);
        x.fork(3);
        x.snap(4, 0);
        due("10 only those of the origin's owner", x.promote(4), 1);
        due("10 owner", x.told(3, 3), 4);
        due("10 owner", x.told(1, 3), 0);
        due("10 origin then", x.told(4, 4), 1);
        due("10 origin of the former", x.told(2, 4), 3);
        due("10 once more", x.promote(4), 1);
        due("10 owner", x.told(1, 3), 4);
        due("10 own", x.told(4, 9), 3);
        due("10 the first has its own no more", x.told(0, 9), 0);
        due("10 the former gets both", x.promote(2), 2);
        due("10 own", x.told(4, 9), 1);
    }

    private static void rollback() {
        DeadListPool x = new DeadListPool();
        x.files(NONE);
        due("11 no prev", x.rollback(0), STATE);
        x.write(0, 0, 1);
        x.write(0, 1, 2);
        x.snap(0, 0);
        due("11 nothing", x.rollback(0), 0);
        x.write(0, 0, 4);
        x.erase(0, 1);
        x.write(0, 2, 8);
        due("11 outside", x.rollback(-1), OUTSIDE);
        due("11 absent", x.rollback(2), ABSENT);
        due("11 snapshot", x.rollback(1), OTHER);
        due("11 freed", x.rollback(0), 2);
        due("11 slot", x.slot(0, 0), 0);
        due("11 slot", x.slot(0, 1), 1);
        due("11 slot", x.slot(0, 2), NONE);
        due("11 freed", x.count(3), 2);
        due("11 blocks", x.count(1), 2);
        due("11 fork", x.fork(1), 2);
        x.write(2, 9, 1);
        due("11 of a fork", x.rollback(2), 1);
        due("11 holders", x.block(0, 2), 3);
    }

    private static void tick() {
        DeadListPool x = new DeadListPool();
        due("12", x.tick(), 2);
        due("12", x.tick(), 3);
        x.files(NONE);
        x.snap(0, 0);
        due("12 after a snapshot", x.tick(), 5);
        DeadListPool y = new DeadListPool();
        for (int i = 2; i < 100000; i++) {
            y.tick();
        }
        due("12 to the last", y.tick(), 100000);
        due("12 beyond", y.tick(), STATE);
        due("12 stands", y.count(2), 100000);
    }
}
