import java.util.Arrays;

/**
 * All that can be told of an object after some calls. It is asked in parts, each of an object that is
 * made anew by the same calls, as nothing is promised of one after its 512th call.
 */
final class Everything {
    interface Run {
        void on(DeadListPool x);
    }

    private interface Part {
        void ask(DeadListPool x, Everything to);
    }

    private static final Part[] PARTS = {
        Everything::things, Everything::slots, Everything::blocks, Everything::counts, Everything::cells,
        (x, to) -> to.afterBack(x, Everything::things),
        (x, to) -> to.afterBack(x, Everything::slots),
        (x, to) -> to.afterBack(x, Everything::blocks),
        (x, to) -> to.afterBack(x, Everything::counts)};

    private long[] row = new long[2500];
    private int length;

    private Everything() {
    }

    static long[] after(Run run) {
        Everything all = new Everything();
        for (Part part : PARTS) {
            DeadListPool x = new DeadListPool();
            run.on(x);
            part.ask(x, all);
        }
        return Arrays.copyOf(all.row, all.length);
    }

    private void add(long answer) {
        if (length == row.length) {
            row = Arrays.copyOf(row, 2 * length);
        }
        row[length] = answer;
        length++;
    }

    private static void things(DeadListPool x, Everything to) {
        for (int of = 0; of < 20; of++) {
            for (int what = 0; what < 10; what++) {
                to.add(x.told(of, what));
            }
        }
    }

    private static void slots(DeadListPool x, Everything to) {
        for (int of = 0; of < 20; of++) {
            for (int slot = 0; slot < 12; slot++) {
                to.add(x.slot(of, slot));
            }
        }
    }

    private static void blocks(DeadListPool x, Everything to) {
        for (int b = 0; b < 96; b++) {
            for (int what = 0; what < 3; what++) {
                to.add(x.block(b, what));
            }
        }
    }

    private static void counts(DeadListPool x, Everything to) {
        for (int what = 0; what < 4; what++) {
            to.add(x.count(what));
            to.add(x.drawn(77 + what, 60, what));
        }
        for (int of = 0; of < 20; of++) {
            to.add(x.space(of));
            to.add(x.alone(of));
        }
    }

    /** Items tell how long a row is; what a cell keeps of a long tells its sort. */
    private static void cells(DeadListPool x, Everything to) {
        for (int sheet = 0; sheet < 4; sheet++) {
            for (int i = 0; i < 41; i++) {
                to.add(x.item(sheet, i));
            }
            to.add(x.cell(sheet, 0, 4294967301L));
            to.add(x.item(sheet, 0));
        }
    }

    /** The image is told by what it brings back. */
    private void afterBack(DeadListPool x, Part part) {
        add(x.back());
        part.ask(x, this);
    }
}
