/** Promises 24 to 26 at the edges that their words name: each sentence has a test of its own. */
public final class RemovalBoundsTest {
    private static final int NONE = Check.NONE, BAD = Check.BAD;
    private static final int ABSENT = Check.ABSENT, OUTSIDE = Check.OUTSIDE, OTHER = Check.OTHER;
    private static final long NO = Check.NO;
    private static final Check CHECK = new Check("RemovalBoundsTest");

    public static void main(String[] args) {
        mostNumber();
        mostNoSuch();
        eightNewest();
        eightNewestWithTightOnes();
        nOrFewer();
        looseByTags();
        looseByNext();
        looseAsIsToldNow();
        mostOfOwnOnes();
        mostOfWhatIsShared();
        mostOfNone();
        fewestAtAnAmount();
        fewestOfNothing();
        fewestOfEight();
        fewestAsked();
        expireNewest();
        expireNewestLimits();
        expireEvery();
        expireEveryLimits();
        expireLoose();
        expireOldestFirst();
        expireNone();
        expireAsked();
        CHECK.end();
    }

    private static void due(String call, long got, long want) {
        CHECK.due(call, got, want);
    }

    private static Edge chain(int n) {
        return new Edge(CHECK, x -> Samples.chain(x, n));
    }

    /** "MOST (n 0 .. 8). NO: n". */
    private static void mostNumber() {
        Edge edge = chain(9);
        edge.still("24 n -1", x -> x.most(0, -1), NO);
        edge.still("24 n 0", x -> x.most(0, 0), 0);
        edge.still("24 n 1", x -> x.most(0, 1), 109);
        edge.still("24 n 7", x -> x.most(0, 7), 7 * 100 + 3 + 4 + 5 + 6 + 7 + 8 + 9);
        edge.still("24 n 8", x -> x.most(0, 8), 8 * 100 + 2 + 3 + 4 + 5 + 6 + 7 + 8 + 9);
        edge.still("24 n 9", x -> x.most(0, 9), NO);
        edge.still("24 least n", x -> x.most(0, Integer.MIN_VALUE), NO);
        edge.still("24 greatest n", x -> x.most(0, Integer.MAX_VALUE), NO);
    }

    /** "NO: .. no such FILES." */
    private static void mostNoSuch() {
        Edge edge = new Edge(CHECK, Samples::kinds);
        edge.still("24 FILES", x -> x.most(0, 8), 0);
        edge.still("24 BOUND", x -> x.most(1, 8), 0);
        edge.still("24 SNAPSHOT", x -> x.most(2, 8), NO);
        edge.still("24 TAGGED", x -> x.most(3, 8), NO);
        edge.still("24 BOOKMARK", x -> x.most(4, 8), NO);
        edge.still("24 none such", x -> x.most(6, 8), NO);
        edge.still("24 outside", x -> x.most(20, 8), NO);
        edge.still("24 outside", x -> x.most(-1, 8), NO);
    }

    /** "of its 8 newest OWN SNAPSHOTS (all, if there are fewer)": 7, 8, 9 and 19 of them. */
    private static void eightNewest() {
        chain(7).still("24 seven are all", x -> x.most(0, 8), 700 + 28);
        chain(8).still("24 eight are all", x -> x.most(0, 8), 800 + 36);
        chain(9).still("24 of nine the oldest isn't among them", x -> x.most(0, 8), 836 + 8);
        chain(19).still("24 of nineteen the newest", x -> x.most(0, 8), 836 + 8 * 11);
        chain(9).still("25 of nine the oldest isn't among them", x -> x.fewest(0, 845), NONE);
        Edge old = new Edge(CHECK, x -> {
            x.files(NONE);
            x.write(0, 0, 5);
            x.snap(0, 0);
            x.erase(0, 0);
            for (int i = 0; i < 7; i++) {
                x.snap(0, 0);
            }
        });
        old.still("24 the eighth newest", x -> x.most(0, 1), 5);
        old.still("25 the eighth newest", x -> x.fewest(0, 5), 1);
        DeadListPool x = old.fresh();
        x.snap(0, 0);
        due("24 the ninth newest", x.most(0, 8), 0);
        due("25 the ninth newest", x.fewest(0, 1), NONE);
        x.remove(5);
        due("24 the eighth newest again", x.most(0, 1), 5);
    }

    /** Those that are not LOOSE count among the eight, and none older comes in for them. */
    private static void eightNewestWithTightOnes() {
        Edge edge = new Edge(CHECK, x -> {
            Samples.chain(x, 9);
            x.fork(9);
            x.fork(8);
        });
        edge.still("24 six of the eight", x -> x.most(0, 8), 600 + 2 + 3 + 4 + 5 + 6 + 7);
        edge.still("25 six of the eight", x -> x.fewest(0, 627), 6);
        edge.still("25 no more than that", x -> x.fewest(0, 628), NONE);
    }

    /** "n or fewer LOOSE ones REMOVED": as many as there are, one fewer, one more. */
    private static void nOrFewer() {
        Edge edge = chain(3);
        edge.still("24 one", x -> x.most(0, 1), 103);
        edge.still("24 one fewer than all", x -> x.most(0, 2), 205);
        edge.still("24 all", x -> x.most(0, 3), 306);
        edge.still("24 one more than all", x -> x.most(0, 4), 306);
    }

    /** "LOOSE: SNAPSHOTS that have no TAGS above 0": 0, 1, 9. */
    private static void looseByTags() {
        for (int v = 0; v <= 9; v += v == 0 ? 1 : 8) {
            int tags = v;
            Edge edge = new Edge(CHECK, x -> {
                x.files(NONE);
                x.write(0, 0, 5);
                x.snap(0, 1);
                x.erase(0, 0);
                x.tag(1, tags);
            });
            edge.still("24 tags " + v, x -> x.most(0, 8), v == 0 ? 5 : 0);
            edge.still("25 tags " + v, x -> x.fewest(0, 5), v == 0 ? 1 : NONE);
            edge.does("26 tags " + v, x -> x.expire(0, 0, 100), v == 0 ? 1 : 0);
        }
    }

    /** ".. and just one NEXT". */
    private static void looseByNext() {
        DeadListPool x = new DeadListPool();
        Samples.chain(x, 3);
        due("24 each has one", x.most(0, 8), 306);
        x.fork(2);
        due("24 the second has two", x.most(0, 8), 204);
        x.fork(2);
        due("24 the second has three", x.most(0, 8), 204);
        x.remove(4);
        x.remove(5);
        due("24 the second has one again", x.most(0, 8), 306);
        x.mark(2);
        due("24 a bookmark is no next", x.most(0, 8), 306);
    }

    /** "LOOSE as is told now": what is removed in thought makes no other one loose. */
    private static void looseAsIsToldNow() {
        Edge edge = new Edge(CHECK, x -> {
            Samples.chain(x, 2);
            x.fork(1);
            x.snap(3, 0);
        });
        edge.still("24 the forked one is not loose", x -> x.most(0, 8), 102);
        edge.still("24 nor for the fork", x -> x.most(3, 8), 0);
        edge.does("24 nothing was removed", x -> x.most(0, 8) + x.count(0), 102 + 5);
    }

    /** "OWN SNAPSHOTS": others of the chain don't count, promoted ones do. */
    private static void mostOfOwnOnes() {
        Edge edge = new Edge(CHECK, x -> {
            Samples.chain(x, 4);
            x.fork(3);
        });
        edge.still("24 a fork owns none", x -> x.most(5, 8), 0);
        edge.still("25 a fork owns none", x -> x.fewest(5, 1), NONE);
        DeadListPool x = edge.fresh();
        due("24 promoted", x.promote(5), 3);
        due("24 two loose ones and the forked one", x.most(5, 8), 101 + 102);
        due("24 what is left", x.most(0, 8), 104);
        due("25 two", x.fewest(5, 103), 2);
        due("25 two", x.fewest(5, 204), NONE);
    }

    /** "how much, at most, would be FREED": what two hold comes free with both alone. */
    private static void mostOfWhatIsShared() {
        Edge edge = new Edge(CHECK, x -> {
            x.files(NONE);
            x.write(0, 0, 50);
            x.write(0, 1, 7);
            x.snap(0, 0);
            x.erase(0, 1);
            x.snap(0, 0);
            x.erase(0, 0);
            x.write(0, 2, 9);
            x.snap(0, 0);
            x.erase(0, 2);
        });
        edge.still("24 one: the third", x -> x.most(0, 1), 9);
        edge.still("24 two: the first and the second", x -> x.most(0, 2), 57);
        edge.still("24 three", x -> x.most(0, 3), 66);
        edge.still("25 at 9", x -> x.fewest(0, 9), 1);
        edge.still("25 above 9", x -> x.fewest(0, 10), 2);
        edge.still("25 at 57", x -> x.fewest(0, 57), 2);
        edge.still("25 above 57", x -> x.fewest(0, 58), 3);
        edge.still("25 at 66", x -> x.fewest(0, 66), 3);
        edge.still("25 above 66", x -> x.fewest(0, 67), NONE);
        DeadListPool x = edge.fresh();
        x.fork(2);
        due("24 a fork holds it too", x.most(0, 8), 7 + 9);
    }

    private static void mostOfNone() {
        Edge edge = new Edge(CHECK, x -> x.files(NONE));
        for (int n = 0; n <= 8; n++) {
            int most = n;
            edge.still("24 no snapshot", x -> x.most(0, most), 0);
        }
        DeadListPool x = edge.fresh();
        x.write(0, 0, 5);
        x.snap(0, 0);
        due("24 files hold it", x.most(0, 8), 0);
        due("25 files hold it", x.fewest(0, 1), NONE);
    }

    /** "how few of these, at least, must be REMOVED that x or more is FREED": at each amount, one above. */
    private static void fewestAtAnAmount() {
        Edge edge = chain(3);
        edge.still("25 the least amount", x -> x.fewest(0, 1), 1);
        edge.still("25 at 103", x -> x.fewest(0, 103), 1);
        edge.still("25 above 103", x -> x.fewest(0, 104), 2);
        edge.still("25 at 205", x -> x.fewest(0, 205), 2);
        edge.still("25 above 205", x -> x.fewest(0, 206), 3);
        edge.still("25 at 306", x -> x.fewest(0, 306), 3);
        edge.still("25 above 306", x -> x.fewest(0, 307), NONE);
        edge.still("25 no wrap-around", x -> x.fewest(0, 4294967296L + 1), NONE);
        edge.still("25 greatest", x -> x.fewest(0, Long.MAX_VALUE), NONE);
    }

    /** "0, if x is 0 or less". */
    private static void fewestOfNothing() {
        long[] nothing = {0, -1, Integer.MIN_VALUE, -4294967295L, Check.NO, Long.MIN_VALUE};
        Edge some = chain(2);
        Edge none = new Edge(CHECK, x -> x.files(NONE));
        for (long amount : nothing) {
            some.still("25 x " + amount, x -> x.fewest(0, amount), 0);
            none.still("25 x " + amount + " of none", x -> x.fewest(0, amount), 0);
        }
        none.still("25 x 1 of none", x -> x.fewest(0, 1), NONE);
    }

    private static void fewestOfEight() {
        Edge edge = chain(8);
        edge.still("25 seven", x -> x.fewest(0, 735), 7);
        edge.still("25 all eight", x -> x.fewest(0, 736), 8);
        edge.still("25 all eight", x -> x.fewest(0, 836), 8);
        edge.still("25 none", x -> x.fewest(0, 837), NONE);
    }

    /** "ASKED FILES; NONE." */
    private static void fewestAsked() {
        Edge edge = new Edge(CHECK, Samples::kinds);
        long[] amounts = {-1, 0, 1};
        for (long amount : amounts) {
            edge.still("25 FILES", x -> x.fewest(0, amount), amount > 0 ? NONE : 0);
            edge.still("25 BOUND", x -> x.fewest(1, amount), amount > 0 ? NONE : 0);
            edge.still("25 SNAPSHOT", x -> x.fewest(2, amount), OTHER);
            edge.still("25 TAGGED", x -> x.fewest(3, amount), OTHER);
            edge.still("25 BOOKMARK", x -> x.fewest(4, amount), OTHER);
            edge.still("25 none such", x -> x.fewest(6, amount), ABSENT);
            edge.still("25 outside", x -> x.fewest(20, amount), OUTSIDE);
            edge.still("25 outside", x -> x.fewest(-1, amount), OUTSIDE);
        }
    }

    /** "each that isn't among the newest that many": as many as there are, one fewer, one more, none. */
    private static void expireNewest() {
        Edge edge = chain(5);
        edge.still("26 newest 6", x -> x.expire(0, 6, 100), 0);
        edge.still("26 newest 5", x -> x.expire(0, 5, 100), 0);
        edge.moves("26 newest 4", x -> x.expire(0, 4, 100), 1);
        edge.moves("26 newest 1", x -> x.expire(0, 1, 100), 4);
        edge.moves("26 newest 0", x -> x.expire(0, 0, 100), 5);
        DeadListPool x = edge.fresh();
        x.expire(0, 4, 100);
        due("26 the oldest went", x.told(1, 0), ABSENT);
        due("26 the next stays", x.told(2, 0), 2);
        due("26 its block went", x.count(3), 1);
        DeadListPool y = edge.fresh();
        y.expire(0, 1, 100);
        due("26 the newest stays", y.told(0, 2), 5);
        due("26 alone", y.told(5, 2), NONE);
        due("26 freed", y.count(3), 4);
    }

    /** "newest 0 .. 20". */
    private static void expireNewestLimits() {
        Edge edge = chain(19);
        edge.still("26 newest -1", x -> x.expire(0, -1, 100), BAD);
        edge.moves("26 newest 0", x -> x.expire(0, 0, 100), 19);
        edge.moves("26 newest 18", x -> x.expire(0, 18, 100), 1);
        edge.still("26 newest 19", x -> x.expire(0, 19, 100), 0);
        edge.still("26 newest 20", x -> x.expire(0, 20, 100), 0);
        edge.still("26 newest 21", x -> x.expire(0, 21, 100), BAD);
        edge.still("26 least", x -> x.expire(0, Integer.MIN_VALUE, 100), BAD);
        edge.still("26 greatest", x -> x.expire(0, Integer.MAX_VALUE, 100), BAD);
    }

    /** "whose MADE every doesn't divide": snapshots made at 1 .. 6. */
    private static void expireEvery() {
        int[] stay = {6, 3, 2, 1, 1, 1, 0};
        Edge edge = chain(6);
        for (int every = 1; every <= 7; every++) {
            int n = every;
            edge.does("26 every " + every, x -> x.expire(0, 0, n), 6 - stay[every - 1]);
            DeadListPool x = edge.fresh();
            x.expire(0, 0, every);
            for (int of = 1; of <= 6; of++) {
                due("26 made at " + of + ", every " + every, x.told(of, 0), of % every == 0 ? 2 : ABSENT);
            }
        }
    }

    /** "every 1 .. 100": made at 99, 100, 101. */
    private static void expireEveryLimits() {
        Edge edge = new Edge(CHECK, x -> {
            x.files(NONE);
            for (int time = 1; time < 99; time++) {
                x.tick();
            }
            x.snap(0, 0);
            x.snap(0, 0);
            x.snap(0, 0);
        });
        edge.still("26 every -1", x -> x.expire(0, 0, -1), BAD);
        edge.still("26 every 0", x -> x.expire(0, 0, 0), BAD);
        edge.still("26 every 1", x -> x.expire(0, 0, 1), 0);
        edge.moves("26 every 2", x -> x.expire(0, 0, 2), 2);
        edge.moves("26 every 99", x -> x.expire(0, 0, 99), 2);
        edge.moves("26 every 100", x -> x.expire(0, 0, 100), 2);
        edge.still("26 every 101", x -> x.expire(0, 0, 101), BAD);
        edge.still("26 least", x -> x.expire(0, 0, Integer.MIN_VALUE), BAD);
        edge.still("26 greatest", x -> x.expire(0, 0, Integer.MAX_VALUE), BAD);
        DeadListPool x = edge.fresh();
        x.expire(0, 0, 100);
        due("26 made at 100 stays", x.told(0, 2), 2);
        due("26 made at 100 stays", x.told(2, 1), 100);
    }

    /** "and that is LOOSE then". */
    private static void expireLoose() {
        Edge edge = new Edge(CHECK, x -> {
            Samples.chain(x, 4);
            x.fork(2);
            x.snap(0, 1);
        });
        edge.moves("26 not the forked one, not the tagged one", x -> x.expire(0, 0, 100), 3);
        DeadListPool x = edge.fresh();
        x.expire(0, 0, 100);
        due("26 the forked one stays", x.told(2, 0), 2);
        due("26 the tagged one stays", x.told(6, 0), 3);
        due("26 and has the forked one for prev", x.told(6, 2), 2);
        due("26 once more", x.expire(0, 0, 100), 0);
        x.tag(6, 0);
        due("26 without tags", x.expire(0, 0, 100), 1);
        x.remove(5);
        due("26 without the fork", x.expire(0, 0, 100), 1);
        due("26 nothing but files is left", x.count(0), 1);
    }

    /** "the oldest first": what two held goes with the second of them. */
    private static void expireOldestFirst() {
        DeadListPool x = new DeadListPool();
        x.files(NONE);
        x.write(0, 0, 5);
        x.snap(0, 0);
        x.snap(0, 0);
        x.snap(0, 0);
        x.erase(0, 0);
        due("26 two of three", x.expire(0, 1, 100), 2);
        due("26 the newest holds it still", x.alone(3), 5);
        due("26 nothing was freed", x.count(3), 0);
        due("26 the last", x.expire(0, 0, 100), 1);
        due("26 it is freed", x.count(3), 1);
    }

    private static void expireNone() {
        Edge edge = new Edge(CHECK, x -> {
            Samples.chain(x, 2);
            x.fork(2);
        });
        edge.still("26 a fork owns none", x -> x.expire(3, 0, 100), 0);
        new Edge(CHECK, x -> x.files(5)).still("26 no snapshots", x -> x.expire(0, 0, 100), 0);
    }

    /** "BAD; ASKED FILES." */
    private static void expireAsked() {
        Edge edge = new Edge(CHECK, Samples::kinds);
        edge.still("26 FILES", x -> x.expire(0, 0, 100), 0);
        edge.still("26 BOUND", x -> x.expire(1, 0, 100), 0);
        edge.still("26 SNAPSHOT", x -> x.expire(2, 0, 100), OTHER);
        edge.still("26 TAGGED", x -> x.expire(3, 0, 100), OTHER);
        edge.still("26 BOOKMARK", x -> x.expire(4, 0, 100), OTHER);
        edge.still("26 none such", x -> x.expire(6, 0, 100), ABSENT);
        edge.still("26 outside", x -> x.expire(20, 0, 100), OUTSIDE);
        edge.still("26 newest ahead of asked", x -> x.expire(20, 21, 100), BAD);
        edge.still("26 every ahead of asked", x -> x.expire(2, 0, 0), BAD);
    }
}
