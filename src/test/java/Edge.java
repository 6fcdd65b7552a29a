import java.util.Arrays;

/** Calls at the edges of what is allowed, each on an object that the same run of calls has made. */
final class Edge {
    interface Act {
        long on(DeadListPool x);
    }

    private final Check check;
    private final Everything.Run before;
    private final long[] untouched;

    Edge(Check check, Everything.Run before) {
        this.check = check;
        this.before = before;
        this.untouched = Everything.after(before);
    }

    DeadListPool fresh() {
        DeadListPool x = new DeadListPool();
        before.on(x);
        return x;
    }

    /** It is answered so. */
    void does(String call, Act act, long want) {
        check.due(call, act.on(fresh()), want);
    }

    /** It is answered so, and nothing is changed by it. */
    void still(String call, Act act, long want) {
        does(call, act, want);
        check.isTrue(call + " changes nothing", Arrays.equals(untouched, withCall(act)));
    }

    /** It is answered so, and something is changed by it. */
    void moves(String call, Act act, long want) {
        does(call, act, want);
        check.isTrue(call + " changes something", !Arrays.equals(untouched, withCall(act)));
    }

    private long[] withCall(Act act) {
        return Everything.after(x -> {
            before.on(x);
            act.on(x);
        });
    }
}
