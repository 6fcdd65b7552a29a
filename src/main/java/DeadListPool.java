/**
 * A pool of files, snapshots and bookmarks over blocks that several of them may hold at once.
 *
 * <p>No counts of holders are kept. A block stays in the slot it was written to, in every thing that
 * holds it, and a snapshot holds each block of its followers that is not younger than itself. So what
 * goes with a thing is told by the birth of a block, the thing's one follower and its predecessor
 * alone: see {@link Acts}.
 */
public final class DeadListPool {
    public static final int NONE = -1, BAD = -2, STATE = -3, FULL = -4;
    public static final long NO = -4611686018427387904L;

    private static final int FINE = 0, ABSENT = -11, OUTSIDE = -12, OTHER_SORT = -13, BELOW_ZERO = -14;
    private static final int FILES = 0, BOUND = 1, SNAPSHOT = 2, TAGGED = 3, BOOKMARK = 4;
    private static final int INTS = 0, LONGS = 1;
    private static final int THINGS = 20, BLOCKS = 96, SLOTS = 12, SHEETS = 4, CELLS = 40;
    private static final int MOST_SIZE = 1000000000, MOST_TAGS = 9, MOST_TIME = 100000;
    private static final int MOST_NEWEST = 20, MOST_EVERY = 100, MOST_DRAWN = 60, CANDIDATES = 8;

    private final Pool pool;
    private final Pool thought;
    private final Pool kept;
    private final Acts acts;
    private final Survey survey;
    private final Choice choice;
    private final Lot lot;
    private final Sheet[] sheets;
    private boolean hasImage;

    public DeadListPool() {
        pool = new Pool();
        thought = new Pool();
        kept = new Pool();
        acts = new Acts(pool);
        survey = new Survey(pool);
        choice = new Choice(pool);
        lot = new Lot(new Acts(thought));
        sheets = new Sheet[SHEETS];
        for (int i = 0; i < SHEETS; i++) {
            sheets[i] = new Sheet();
        }
        hasImage = false;
    }

    // ---- things

    public int files(int quota) {
        return acts.addFiles(quota);
    }

    public int write(int of, int slot, int size) {
        return acts.writeSlot(of, slot, size);
    }

    public int erase(int of, int slot) {
        return acts.eraseSlot(of, slot);
    }

    public int snap(int of, int tagged) {
        return acts.addSnapshot(of, tagged);
    }

    public int tag(int of, int v) {
        return acts.changeTags(of, v);
    }

    public int mark(int of) {
        return acts.addBookmark(of);
    }

    public int remove(int of) {
        return acts.removeThing(of);
    }

    public int fork(int of) {
        return acts.addFork(of);
    }

    public int promote(int of) {
        return acts.promoteFiles(of);
    }

    public int rollback(int of) {
        return acts.rollFilesBack(of);
    }

    public int tick() {
        return acts.passTime();
    }

    // ---- what there is

    public int told(int of, int what) {
        return survey.tellThing(of, what);
    }

    public int slot(int of, int slot) {
        return survey.tellSlot(of, slot);
    }

    public int block(int b, int what) {
        return survey.tellBlock(b, what);
    }

    public int taken(int of, int k) {
        return survey.tellTaken(of, k);
    }

    public int dead(int of, int what) {
        return survey.tellDead(of, what);
    }

    public long deadList(int of, int k) {
        return survey.sizeOfDeadList(of, k);
    }

    public long space(int of) {
        return pool.isHolder(of) ? pool.spaceOf(of) : NO;
    }

    public long alone(int of) {
        return pool.isHolder(of) ? survey.sizeHeldOnlyBy(1 << of) : NO;
    }

    public long range(int a, int b) {
        return survey.sizeOfRange(a, b);
    }

    public long since(int of, int other) {
        return survey.sizeSince(of, other);
    }

    public long common(int of, int other) {
        return survey.sizeInBoth(of, other);
    }

    // ---- what to remove

    public long most(int of, int n) {
        if (n < 0 || n > CANDIDATES || !pool.isFiles(of)) {
            return NO;
        }
        return choice.mostFreed(of, n);
    }

    public int fewest(int of, long x) {
        int refusal = pool.refusalAs(of, FILES);
        return refusal != FINE ? refusal : choice.fewestFor(of, x);
    }

    public int expire(int of, int newest, int every) {
        return acts.removeExpired(of, newest, every);
    }

    // ---- sheets

    public int sheet(int sheet, int sort, int n) {
        if (!isSheet(sheet) || sort < NONE || sort > LONGS) {
            return BAD;
        }
        if (sort == NONE) {
            sheets[sheet].layAside();
            return 1;
        }
        if (n > CELLS) {
            return BAD;
        }
        if (n < 0) {
            return BELOW_ZERO;
        }
        sheets[sheet].layOut(sort, n);
        return 1;
    }

    public int cell(int sheet, int i, long v) {
        if (!isSheet(sheet)) {
            return BAD;
        }
        if (sheets[sheet].isMissing()) {
            return ABSENT;
        }
        return sheets[sheet].put(i, v) ? 1 : OUTSIDE;
    }

    public long item(int sheet, int i) {
        return isSheet(sheet) && sheets[sheet].has(i) ? sheets[sheet].at(i) : NO;
    }

    public int differ(int sheet, int of, int other) {
        if (!isSheet(sheet)) {
            return BAD;
        }
        int refusal = pool.refusalAsHolder(of);
        if (refusal == FINE) {
            refusal = pool.refusalAsHolder(other);
        }
        return refusal != FINE ? refusal : survey.writeDifference(of, other, sheets[sheet]);
    }

    public int apply(int of, int sheet, int sort) {
        if (!isSheet(sheet) || sort < INTS || sort > LONGS) {
            return BAD;
        }
        int refusal = pool.refusalAs(of, FILES);
        if (refusal == FINE) {
            refusal = sheets[sheet].refusalAsSort(sort);
        }
        return refusal != FINE ? refusal : acts.carryOver(of, sheets[sheet]);
    }

    private static boolean isSheet(int sheet) {
        return sheet >= 0 && sheet < SHEETS;
    }

    // ---- by lot, images

    public long drawn(int seed, int n, int what) {
        if (n < 0 || n > MOST_DRAWN || what < 0 || what > 3) {
            return NO;
        }
        thought.copyFrom(pool);
        lot.play(seed, n);
        switch (what) {
            case 0:
                return thought.thingCount();
            case 1:
                return thought.blockCount();
            case 2:
                return thought.freedCount() - pool.freedCount();
            default:
                return thought.sizeOfAll();
        }
    }

    public int image() {
        kept.copyFrom(pool);
        hasImage = true;
        return kept.thingCount();
    }

    public int back() {
        if (!hasImage) {
            return STATE;
        }
        pool.copyFrom(kept);
        return pool.thingCount();
    }

    public int count(int what) {
        switch (what) {
            case 0:
                return pool.thingCount();
            case 1:
                return pool.blockCount();
            case 2:
                return pool.now();
            case 3:
                return pool.freedCount();
            default:
                return BAD;
        }
    }

    /**
     * The state, in rows by the number of a thing or of a block. Where no thing is, its kind is NONE,
     * its slots are empty and nothing owns it or is owned by it; where no block is, its size is 0.
     * Each reader takes any number at all, and tells of a number without a thing what is told of none.
     */
    private static final class Pool {
        private final int[] kind;
        private final int[] made;
        private final int[] prev;
        private final int[] owner;
        private final int[] tags;
        private final int[] quota;
        private final int[] held;
        private final int[] size;
        private final int[] birth;
        private int time;
        private int freed;

        Pool() {
            kind = new int[THINGS];
            made = new int[THINGS];
            prev = new int[THINGS];
            owner = new int[THINGS];
            tags = new int[THINGS];
            quota = new int[THINGS];
            held = new int[THINGS * SLOTS];
            size = new int[BLOCKS];
            birth = new int[BLOCKS];
            time = 1;
            freed = 0;
            for (int of = 0; of < THINGS; of++) {
                kind[of] = NONE;
                prev[of] = NONE;
                owner[of] = NONE;
                quota[of] = NONE;
            }
            for (int i = 0; i < THINGS * SLOTS; i++) {
                held[i] = NONE;
            }
        }

        void copyFrom(Pool other) {
            System.arraycopy(other.kind, 0, kind, 0, THINGS);
            System.arraycopy(other.made, 0, made, 0, THINGS);
            System.arraycopy(other.prev, 0, prev, 0, THINGS);
            System.arraycopy(other.owner, 0, owner, 0, THINGS);
            System.arraycopy(other.tags, 0, tags, 0, THINGS);
            System.arraycopy(other.quota, 0, quota, 0, THINGS);
            System.arraycopy(other.held, 0, held, 0, THINGS * SLOTS);
            System.arraycopy(other.size, 0, size, 0, BLOCKS);
            System.arraycopy(other.birth, 0, birth, 0, BLOCKS);
            time = other.time;
            freed = other.freed;
        }

        // -- readers of one thing

        int kindOf(int of) {
            return of >= 0 && of < THINGS ? kind[of] : NONE;
        }

        /** 0 where no thing is: a time before every birth. */
        int madeOf(int of) {
            return of >= 0 && of < THINGS ? made[of] : 0;
        }

        int prevOf(int of) {
            return of >= 0 && of < THINGS ? prev[of] : NONE;
        }

        int ownerOf(int of) {
            return of >= 0 && of < THINGS ? owner[of] : NONE;
        }

        int tagsOf(int of) {
            return of >= 0 && of < THINGS ? tags[of] : 0;
        }

        int quotaOf(int of) {
            return of >= 0 && of < THINGS ? quota[of] : NONE;
        }

        int blockIn(int of, int slot) {
            return of >= 0 && of < THINGS && slot >= 0 && slot < SLOTS ? held[of * SLOTS + slot] : NONE;
        }

        boolean isFiles(int of) {
            int k = kindOf(of);
            return k == FILES || k == BOUND;
        }

        boolean isSnapshot(int of) {
            int k = kindOf(of);
            return k == SNAPSHOT || k == TAGGED;
        }

        /** Whether it is a thing that has slots. */
        boolean isHolder(int of) {
            int k = kindOf(of);
            return k != NONE && k != BOOKMARK;
        }

        long spaceOf(int of) {
            long sum = 0;
            for (int slot = 0; slot < SLOTS; slot++) {
                sum += sizeOf(blockIn(of, slot));
            }
            return sum;
        }

        // -- refusals of a number that is to be a thing

        int refusalOfNumber(int of) {
            if (of < 0 || of >= THINGS) {
                return OUTSIDE;
            }
            return kind[of] == NONE ? ABSENT : FINE;
        }

        int refusalAs(int of, int asked) {
            int refusal = refusalOfNumber(of);
            if (refusal != FINE) {
                return refusal;
            }
            int k = kindOf(of);
            boolean fits = k == asked || (k == BOUND && asked == FILES) || (k == TAGGED && asked == SNAPSHOT);
            return fits ? FINE : OTHER_SORT;
        }

        int refusalAsHolder(int of) {
            int refusal = refusalOfNumber(of);
            if (refusal != FINE) {
                return refusal;
            }
            return kindOf(of) == BOOKMARK ? OTHER_SORT : FINE;
        }

        // -- chains

        /** Number k (from 0) of the chain, or NONE. */
        int inChain(int of, int k) {
            if (k < 0 || k >= THINGS) {
                return NONE;
            }
            int at = prevOf(of);
            for (int i = 0; i < k && at != NONE; i++) {
                at = prevOf(at);
            }
            return at;
        }

        int nextCount(int of) {
            int sum = 0;
            for (int i = 0; i < THINGS; i++) {
                if (prev[i] == of) {
                    sum++;
                }
            }
            return sum;
        }

        /** The follower with the least number, or NONE. */
        int firstNext(int of) {
            for (int i = 0; i < THINGS; i++) {
                if (kind[i] != NONE && prev[i] == of) {
                    return i;
                }
            }
            return NONE;
        }

        /** How many snapshots files own: as these are the first of the chain, also where the chain's others begin. */
        int ownCount(int of) {
            int sum = 0;
            for (int i = 0; i < THINGS; i++) {
                if (owner[i] == of) {
                    sum++;
                }
            }
            return sum;
        }

        int originOf(int of) {
            return isFiles(of) ? inChain(of, ownCount(of)) : NONE;
        }

        boolean isLoose(int of) {
            return isSnapshot(of) && tagsOf(of) == 0 && nextCount(of) == 1;
        }

        // -- readers of blocks and of the whole

        int sizeOf(int b) {
            return b >= 0 && b < BLOCKS ? size[b] : 0;
        }

        int birthOf(int b) {
            return b >= 0 && b < BLOCKS ? birth[b] : 0;
        }

        int thingCount() {
            int sum = 0;
            for (int i = 0; i < THINGS; i++) {
                if (kind[i] != NONE) {
                    sum++;
                }
            }
            return sum;
        }

        int blockCount() {
            int sum = 0;
            for (int b = 0; b < BLOCKS; b++) {
                if (size[b] != 0) {
                    sum++;
                }
            }
            return sum;
        }

        long sizeOfAll() {
            long sum = 0;
            for (int b = 0; b < BLOCKS; b++) {
                sum += size[b];
            }
            return sum;
        }

        int now() {
            return time;
        }

        int freedCount() {
            return freed;
        }

        // -- changes

        /** The number of a new thing that holds nothing and follows nothing; FULL. */
        int newThing(int newKind, int newMade) {
            for (int of = 0; of < THINGS; of++) {
                if (kind[of] == NONE) {
                    kind[of] = newKind;
                    made[of] = newMade;
                    return of;
                }
            }
            return FULL;
        }

        /** Lays the number bare; what the thing held must have been seen to. */
        void dropThing(int of) {
            if (of < 0 || of >= THINGS) {
                return;
            }
            kind[of] = NONE;
            made[of] = 0;
            prev[of] = NONE;
            owner[of] = NONE;
            tags[of] = 0;
            quota[of] = NONE;
            for (int slot = 0; slot < SLOTS; slot++) {
                held[of * SLOTS + slot] = NONE;
            }
        }

        /** The number of a new block, born now; FULL. */
        int newBlock(int newSize) {
            for (int b = 0; b < BLOCKS; b++) {
                if (size[b] == 0) {
                    size[b] = newSize;
                    birth[b] = time;
                    return b;
                }
            }
            return FULL;
        }

        void freeBlock(int b) {
            if (b >= 0 && b < BLOCKS) {
                size[b] = 0;
                birth[b] = 0;
                freed++;
            }
        }

        void setSlot(int of, int slot, int b) {
            if (of >= 0 && of < THINGS && slot >= 0 && slot < SLOTS) {
                held[of * SLOTS + slot] = b;
            }
        }

        void copySlots(int from, int to) {
            for (int slot = 0; slot < SLOTS; slot++) {
                setSlot(to, slot, blockIn(from, slot));
            }
        }

        void setPrev(int of, int newPrev) {
            if (of >= 0 && of < THINGS) {
                prev[of] = newPrev;
            }
        }

        void setOwner(int of, int newOwner) {
            if (of >= 0 && of < THINGS) {
                owner[of] = newOwner;
            }
        }

        void setTags(int of, int newTags) {
            if (of >= 0 && of < THINGS) {
                tags[of] = newTags;
            }
        }

        void setQuota(int of, int newQuota) {
            if (of >= 0 && of < THINGS) {
                quota[of] = newQuota;
            }
        }

        void setTime(int newTime) {
            time = newTime;
        }
    }

    /**
     * The calls that change a pool, with their refusals.
     *
     * <p>What they free they find by dead lists. Files alone hold what was born after their
     * predecessor was made; what is older the predecessor holds too. Of a snapshot with one follower,
     * just those blocks go that are dead in the follower and were born after the snapshot's own
     * predecessor was made. No other thing is looked at.
     */
    private static final class Acts {
        private final Pool pool;

        Acts(Pool pool) {
            this.pool = pool;
        }

        int addFiles(int quota) {
            if (quota < NONE || quota > MOST_SIZE) {
                return BAD;
            }
            int of = pool.newThing(quota == NONE ? FILES : BOUND, pool.now());
            if (of != FULL) {
                pool.setQuota(of, quota);
            }
            return of;
        }

        int writeSlot(int of, int slot, int size) {
            if (slot < 0 || slot >= SLOTS || size < 1 || size > MOST_SIZE) {
                return BAD;
            }
            int refusal = pool.refusalAs(of, FILES);
            return refusal != FINE ? refusal : fillSlot(of, slot, size);
        }

        int eraseSlot(int of, int slot) {
            if (slot < 0 || slot >= SLOTS) {
                return BAD;
            }
            int refusal = pool.refusalAs(of, FILES);
            if (refusal != FINE) {
                return refusal;
            }
            int old = pool.blockIn(of, slot);
            emptySlot(of, slot);
            return old;
        }

        int addSnapshot(int of, int tagged) {
            if (tagged < 0 || tagged > 1) {
                return BAD;
            }
            int refusal = pool.refusalAs(of, FILES);
            if (refusal != FINE) {
                return refusal;
            }
            int snapshot = pool.newThing(tagged == 1 ? TAGGED : SNAPSHOT, pool.now());
            if (snapshot == FULL) {
                return FULL;
            }
            pool.copySlots(of, snapshot);
            pool.setPrev(snapshot, pool.prevOf(of));
            pool.setOwner(snapshot, of);
            pool.setTags(snapshot, tagged);
            pool.setPrev(of, snapshot);
            pool.setTime(pool.now() + 1);
            return snapshot;
        }

        int changeTags(int of, int v) {
            if (v < 0 || v > MOST_TAGS) {
                return BAD;
            }
            int refusal = pool.refusalAs(of, TAGGED);
            if (refusal != FINE) {
                return refusal;
            }
            int old = pool.tagsOf(of);
            pool.setTags(of, v);
            return old;
        }

        int addBookmark(int of) {
            int refusal = pool.refusalAs(of, SNAPSHOT);
            return refusal != FINE ? refusal : pool.newThing(BOOKMARK, pool.madeOf(of));
        }

        int removeThing(int of) {
            int refusal = pool.refusalOfNumber(of);
            if (refusal != FINE) {
                return refusal;
            }
            if (pool.isSnapshot(of)) {
                return pool.isLoose(of) ? removeSnapshot(of) : STATE;
            }
            if (pool.ownCount(of) > 0) {
                return STATE;
            }
            int gone = 0;
            for (int slot = 0; slot < SLOTS; slot++) {
                gone += emptySlot(of, slot);
            }
            pool.dropThing(of);
            return gone;
        }

        int addFork(int of) {
            int refusal = pool.refusalAs(of, SNAPSHOT);
            if (refusal != FINE) {
                return refusal;
            }
            int fork = pool.newThing(FILES, pool.now());
            if (fork != FULL) {
                pool.copySlots(of, fork);
                pool.setPrev(fork, of);
            }
            return fork;
        }

        int promoteFiles(int of) {
            int refusal = pool.refusalAs(of, FILES);
            if (refusal != FINE) {
                return refusal;
            }
            int at = pool.originOf(of);
            if (at == NONE) {
                return STATE;
            }
            int former = pool.ownerOf(at);
            int moved = 0;
            for (int i = 0; i < THINGS && at != NONE; i++) {
                if (pool.ownerOf(at) == former) {
                    pool.setOwner(at, of);
                    moved++;
                }
                at = pool.prevOf(at);
            }
            return moved;
        }

        int rollFilesBack(int of) {
            int refusal = pool.refusalAs(of, FILES);
            if (refusal != FINE) {
                return refusal;
            }
            int before = pool.prevOf(of);
            if (before == NONE) {
                return STATE;
            }
            int gone = 0;
            for (int slot = 0; slot < SLOTS; slot++) {
                gone += emptySlot(of, slot);
            }
            pool.copySlots(before, of);
            return gone;
        }

        int passTime() {
            if (pool.now() >= MOST_TIME) {
                return STATE;
            }
            pool.setTime(pool.now() + 1);
            return pool.now();
        }

        int removeExpired(int of, int newest, int every) {
            if (newest < 0 || newest > MOST_NEWEST || every < 1 || every > MOST_EVERY) {
                return BAD;
            }
            int refusal = pool.refusalAs(of, FILES);
            if (refusal != FINE) {
                return refusal;
            }
            int removed = 0;
            // From the oldest: a removal leaves the places of the newer ones in the chain as they were.
            for (int k = pool.ownCount(of) - 1; k >= newest; k--) {
                int at = pool.inChain(of, k);
                if (pool.madeOf(at) % every != 0 && pool.isLoose(at)) {
                    removeSnapshot(at);
                    removed++;
                }
            }
            return removed;
        }

        /** Two by two; a slot without a size behind it is told only when all ahead of it has been done. */
        int carryOver(int of, Sheet sheet) {
            int length = sheet.size();
            int done = 0;
            for (int i = 0; i + 1 < length; i += 2) {
                if (carryPair(of, sheet.at(i), sheet.at(i + 1))) {
                    done++;
                }
            }
            return length % 2 == 0 ? done : OUTSIDE;
        }

        private boolean carryPair(int of, long slot, long size) {
            if (slot < 0 || slot >= SLOTS || size < 0 || size > MOST_SIZE) {
                return false;
            }
            if (size == 0) {
                emptySlot(of, (int) slot);
                return true;
            }
            return fillSlot(of, (int) slot, (int) size) != FULL;
        }

        /** The number of the new block; it is taken before the old one goes, so never the old one's. */
        private int fillSlot(int of, int slot, int size) {
            int quota = pool.quotaOf(of);
            long then = pool.spaceOf(of) - pool.sizeOf(pool.blockIn(of, slot)) + size;
            if (quota != NONE && then > quota) {
                return FULL;
            }
            int b = pool.newBlock(size);
            if (b != FULL) {
                emptySlot(of, slot);
                pool.setSlot(of, slot, b);
            }
            return b;
        }

        /** How many blocks went with it: 1 or 0. */
        private int emptySlot(int of, int slot) {
            int b = pool.blockIn(of, slot);
            pool.setSlot(of, slot, NONE);
            if (b == NONE || pool.birthOf(b) <= pool.madeOf(pool.prevOf(of))) {
                return 0;
            }
            pool.freeBlock(b);
            return 1;
        }

        /** How many blocks went with a snapshot that has just one follower. */
        private int removeSnapshot(int of) {
            int next = pool.firstNext(of);
            int before = pool.prevOf(of);
            int gone = 0;
            for (int slot = 0; slot < SLOTS; slot++) {
                int b = pool.blockIn(of, slot);
                boolean isDead = b != NONE && b != pool.blockIn(next, slot);
                if (isDead && pool.birthOf(b) > pool.madeOf(before)) {
                    pool.freeBlock(b);
                    gone++;
                }
            }
            pool.setPrev(next, before);
            pool.dropThing(of);
            return gone;
        }
    }

    /** The calls that only ask, with their refusals. */
    private static final class Survey {
        private final Pool pool;
        private final Holders holders;

        Survey(Pool pool) {
            this.pool = pool;
            this.holders = new Holders(pool);
        }

        int tellThing(int of, int what) {
            if (what < 0 || what > 9) {
                return BAD;
            }
            int refusal = pool.refusalOfNumber(of);
            if (refusal != FINE) {
                return refusal;
            }
            switch (what) {
                case 0:
                    return pool.kindOf(of);
                case 1:
                    return pool.madeOf(of);
                case 2:
                    return pool.prevOf(of);
                case 3:
                    return pool.ownerOf(of);
                case 4:
                    return pool.originOf(of);
                case 5:
                    return pool.nextCount(of);
                case 6:
                    return heldCount(of);
                case 7:
                    return pool.tagsOf(of);
                case 8:
                    return pool.quotaOf(of);
                default:
                    return pool.ownCount(of);
            }
        }

        private int heldCount(int of) {
            int sum = 0;
            for (int slot = 0; slot < SLOTS; slot++) {
                if (pool.blockIn(of, slot) != NONE) {
                    sum++;
                }
            }
            return sum;
        }

        int tellSlot(int of, int slot) {
            if (slot < 0 || slot >= SLOTS) {
                return BAD;
            }
            int refusal = pool.refusalAsHolder(of);
            return refusal != FINE ? refusal : pool.blockIn(of, slot);
        }

        int tellBlock(int b, int what) {
            if (what < 0 || what > 2) {
                return BAD;
            }
            if (b < 0 || b >= BLOCKS) {
                return OUTSIDE;
            }
            if (pool.sizeOf(b) == 0) {
                return ABSENT;
            }
            switch (what) {
                case 0:
                    return pool.sizeOf(b);
                case 1:
                    return pool.birthOf(b);
                default:
                    holders.look();
                    return Integer.bitCount(holders.setOf(b));
            }
        }

        int tellTaken(int of, int k) {
            if (k < FILES || k > BOOKMARK) {
                return BAD;
            }
            int refusal = pool.refusalAs(of, k);
            return refusal != FINE ? refusal : pool.madeOf(of);
        }

        int tellDead(int of, int what) {
            if (what < 0 || what > 2) {
                return BAD;
            }
            int refusal = pool.refusalAsHolder(of);
            if (refusal != FINE) {
                return refusal;
            }
            int sum = 0;
            int latest = NONE;
            int earliest = NONE;
            for (int slot = 0; slot < SLOTS; slot++) {
                int b = deadIn(of, slot);
                if (b != NONE) {
                    sum++;
                    latest = latest == NONE || isLater(b, latest) ? b : latest;
                    earliest = earliest == NONE || isLater(earliest, b) ? b : earliest;
                }
            }
            if (what == 0) {
                return sum;
            }
            return what == 1 ? latest : earliest;
        }

        /** The block that the predecessor holds there and this one doesn't, or NONE. */
        private int deadIn(int of, int slot) {
            int b = pool.blockIn(pool.prevOf(of), slot);
            return b != pool.blockIn(of, slot) ? b : NONE;
        }

        /** By birth; of like births the lesser number counts as the later one. */
        private boolean isLater(int a, int b) {
            int order = Integer.compare(pool.birthOf(a), pool.birthOf(b));
            return order != 0 ? order > 0 : a < b;
        }

        long sizeOfDeadList(int of, int k) {
            int from = pool.isHolder(of) ? pool.inChain(of, k) : NONE;
            if (from == NONE) {
                return NO;
            }
            int after = pool.madeOf(pool.prevOf(from));
            long sum = 0;
            for (int slot = 0; slot < SLOTS; slot++) {
                int b = deadIn(of, slot);
                int birth = pool.birthOf(b);
                if (b != NONE && birth <= pool.madeOf(from) && birth > after) {
                    sum += pool.sizeOf(b);
                }
            }
            return sum;
        }

        long sizeHeldOnlyBy(int set) {
            holders.look();
            long sum = 0;
            for (int b = 0; b < BLOCKS; b++) {
                if ((holders.setOf(b) & ~set) == 0) {
                    sum += pool.sizeOf(b);
                }
            }
            return sum;
        }

        long sizeOfRange(int a, int b) {
            if (!pool.isSnapshot(a) || !pool.isSnapshot(b)) {
                return NO;
            }
            int set = 0;
            int at = b;
            for (int i = 0; i < THINGS && at != NONE; i++) {
                set |= 1 << at;
                if (at == a) {
                    return sizeHeldOnlyBy(set);
                }
                at = pool.prevOf(at);
            }
            return NO;
        }

        long sizeSince(int of, int other) {
            if (!pool.isHolder(of) || pool.kindOf(other) == NONE) {
                return NO;
            }
            long sum = 0;
            for (int slot = 0; slot < SLOTS; slot++) {
                int b = pool.blockIn(of, slot);
                if (pool.birthOf(b) > pool.madeOf(other)) {
                    sum += pool.sizeOf(b);
                }
            }
            return sum;
        }

        long sizeInBoth(int of, int other) {
            if (!pool.isHolder(of) || !pool.isHolder(other)) {
                return NO;
            }
            long sum = 0;
            for (int slot = 0; slot < SLOTS; slot++) {
                int b = pool.blockIn(of, slot);
                if (b == pool.blockIn(other, slot)) {
                    sum += pool.sizeOf(b);
                }
            }
            return sum;
        }

        int writeDifference(int of, int other, Sheet sheet) {
            sheet.layOut(LONGS, 0);
            for (int slot = 0; slot < SLOTS; slot++) {
                int b = pool.blockIn(other, slot);
                if (b != pool.blockIn(of, slot)) {
                    sheet.append(slot);
                    sheet.append(pool.sizeOf(b));
                }
            }
            return sheet.size();
        }
    }

    /** Which things hold a block, as a set with a bit for each number of a thing: asked for, never kept up. */
    private static final class Holders {
        private final Pool pool;
        private final int[] sets;

        Holders(Pool pool) {
            this.pool = pool;
            this.sets = new int[BLOCKS];
        }

        void look() {
            for (int b = 0; b < BLOCKS; b++) {
                sets[b] = 0;
            }
            for (int of = 0; of < THINGS; of++) {
                for (int slot = 0; slot < SLOTS; slot++) {
                    int b = pool.blockIn(of, slot);
                    if (b >= 0 && b < BLOCKS) {
                        sets[b] |= 1 << of;
                    }
                }
            }
        }

        int setOf(int b) {
            return b >= 0 && b < BLOCKS ? sets[b] : 0;
        }
    }

    /** Which of the newest own snapshots to remove: what each set of them would free is weighed at once. */
    private static final class Choice {
        private static final int ALL_SETS = 1 << CANDIDATES;

        private final Pool pool;
        private final Holders holders;
        private final int[] candidates;
        private final long[] freed;

        Choice(Pool pool) {
            this.pool = pool;
            this.holders = new Holders(pool);
            this.candidates = new int[CANDIDATES];
            this.freed = new long[ALL_SETS];
        }

        long mostFreed(int of, int n) {
            weigh(of);
            long best = 0;
            for (int set = 0; set < ALL_SETS; set++) {
                if (Integer.bitCount(set) <= n) {
                    best = Math.max(best, freed[set]);
                }
            }
            return best;
        }

        int fewestFor(int of, long x) {
            if (x <= 0) {
                return 0;
            }
            weigh(of);
            int least = NONE;
            for (int set = 0; set < ALL_SETS; set++) {
                int members = Integer.bitCount(set);
                if (freed[set] >= x && (least == NONE || members < least)) {
                    least = members;
                }
            }
            return least;
        }

        private void weigh(int of) {
            int found = findCandidates(of);
            for (int set = 0; set < ALL_SETS; set++) {
                freed[set] = 0;
            }
            holders.look();
            for (int b = 0; b < BLOCKS; b++) {
                int set = candidatesAlone(holders.setOf(b), found);
                if (set != NONE && set < ALL_SETS) {
                    freed[set] += pool.sizeOf(b);
                }
            }
            addSubsets(found);
        }

        private int findCandidates(int of) {
            int looked = Math.min(pool.ownCount(of), CANDIDATES);
            int found = 0;
            for (int k = 0; k < looked; k++) {
                int at = pool.inChain(of, k);
                if (pool.isLoose(at) && found < CANDIDATES) {
                    candidates[found] = at;
                    found++;
                }
            }
            return found;
        }

        /** The holders as a set of candidates, or NONE where a thing holds it that is no candidate. */
        private int candidatesAlone(int things, int found) {
            int rest = things;
            int set = 0;
            for (int i = 0; i < found && i < CANDIDATES; i++) {
                int bit = 1 << candidates[i];
                if ((rest & bit) != 0) {
                    set |= 1 << i;
                    rest &= ~bit;
                }
            }
            return rest == 0 ? set : NONE;
        }

        /**
         * Each set gets what all sets within it have: one member after another is let be missing. Sets with
         * more members than there are candidates stay at 0, so they never win.
         */
        private void addSubsets(int found) {
            for (int i = 0; i < found; i++) {
                for (int set = 0; set < ALL_SETS; set++) {
                    if ((set & (1 << i)) != 0) {
                        freed[set] += freed[set & ~(1 << i)];
                    }
                }
            }
        }
    }

    /** A row of numbers in a place that has room for the longest one; of sort NONE it is missing. */
    private static final class Sheet {
        private final long[] row;
        private int sort;
        private int length;

        Sheet() {
            row = new long[CELLS];
            sort = NONE;
            length = 0;
        }

        void layAside() {
            sort = NONE;
            length = 0;
        }

        void layOut(int newSort, int newLength) {
            sort = newSort;
            length = Math.max(0, Math.min(newLength, CELLS));
            for (int i = 0; i < CELLS; i++) {
                row[i] = 0;
            }
        }

        boolean isMissing() {
            return sort == NONE;
        }

        int refusalAsSort(int asked) {
            if (isMissing()) {
                return ABSENT;
            }
            return sort == asked ? FINE : OTHER_SORT;
        }

        int size() {
            return length;
        }

        boolean has(int i) {
            return i >= 0 && i < length && i < CELLS;
        }

        long at(int i) {
            return has(i) ? row[i] : 0;
        }

        boolean put(int i, long v) {
            if (i < 0 || i >= length || i >= CELLS) {
                return false;
            }
            row[i] = sort == INTS ? (int) v : v;
            return true;
        }

        void append(long v) {
            if (length < CELLS) {
                length++;
                put(length - 1, v);
            }
        }
    }

    /** Acts that are drawn. */
    private static final class Lot {
        private static final int FACES = 24;

        private final Acts acts;
        private int z;

        Lot(Acts acts) {
            this.acts = acts;
            this.z = 0;
        }

        void play(int seed, int n) {
            z = seed;
            for (int i = 0; i < n; i++) {
                int x = nextFace();
                int y = nextFace();
                int w = nextFace();
                act(x, y, w);
            }
        }

        private int nextFace() {
            z = z * 1103515245 + 12345;
            return (z >>> 9) % FACES;
        }

        private void act(int x, int y, int w) {
            int of = y % THINGS;
            if (x <= 7) {
                acts.writeSlot(of, w % SLOTS, 1 + y);
            } else if (x <= 10) {
                acts.eraseSlot(of, w % SLOTS);
            } else if (x <= 14) {
                acts.addSnapshot(of, w / 20);
            } else if (x <= 18) {
                acts.removeThing(of);
            } else if (x <= 20) {
                acts.addFork(of);
            } else if (x == 21) {
                acts.promoteFiles(of);
            } else if (x == 22) {
                acts.rollFilesBack(of);
            } else {
                acts.addFiles(NONE);
            }
        }
    }
}
