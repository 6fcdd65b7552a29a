/** The document's words on what is DRAWN, made as calls. */
final class Drawn {
    private static final int FACES = 24;

    private Drawn() {
    }

    static int next(int z) {
        return z * 1103515245 + 12345;
    }

    static int face(int z) {
        return (z >>> 9) % FACES;
    }

    /** What n acts bring when they are made: things, blocks, freed by them, sizes. */
    static long[] called(DeadListPool x, int seed, int n) {
        int before = x.count(3);
        int z = seed;
        for (int i = 0; i < n; i++) {
            int[] faces = new int[3];
            for (int j = 0; j < 3; j++) {
                z = next(z);
                faces[j] = face(z);
            }
            act(x, faces[0], faces[1], faces[2]);
        }
        long[] all = {x.count(0), x.count(1), x.count(3) - before, sizes(x)};
        return all;
    }

    static void act(DeadListPool x, int a, int y, int w) {
        switch (a) {
            case 0, 1, 2, 3, 4, 5, 6, 7 -> x.write(y % 20, w % 12, 1 + y);
            case 8, 9, 10 -> x.erase(y % 20, w % 12);
            case 11, 12, 13, 14 -> x.snap(y % 20, w / 20);
            case 15, 16, 17, 18 -> x.remove(y % 20);
            case 19, 20 -> x.fork(y % 20);
            case 21 -> x.promote(y % 20);
            case 22 -> x.rollback(y % 20);
            default -> x.files(-1);
        }
    }

    private static long sizes(DeadListPool x) {
        long sum = 0;
        for (int b = 0; b < 96; b++) {
            sum += Math.max(0, x.block(b, 0));
        }
        return sum;
    }
}
