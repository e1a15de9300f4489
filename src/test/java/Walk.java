/**
 * A drive on which changes of every kind are made one after another. They are drawn from a seed, so that each run of
 * the tests draws the same; each is one that the drive allows. At most eight orders are told; order n has the tag 0 n.
 */
final class Walk {
    private static final int MOST_ORDERS = 8;
    private static final int BLOCKS = 3;

    final WokenDrive drive = new WokenDrive();
    final int[] kinds = new int[MOST_ORDERS];
    final int[] blocks = new int[MOST_ORDERS];
    final int[] operands = new int[MOST_ORDERS];
    int orders = 0;
    private final boolean addsAlone;
    private long seed;

    private Walk(long seed, boolean addsAlone) {
        this.seed = seed * 7919 + 31;
        this.addsAlone = addsAlone;
    }

    static Walk ofAllKinds(long seed) {
        return new Walk(seed, false);
    }

    /** Adds and fences alone; each add has an operand of its own, and no sum of them is another one's. */
    static Walk ofAdds(long seed) {
        return new Walk(seed, true);
    }

    private int below(int bound) {
        seed = seed * 6364136223846793005L + 1442695040888963407L;
        return (int) ((seed >>> 33) % bound);
    }

    Walk steps(int count) {
        for (int step = 0; step < count; step++) {
            step();
        }
        return this;
    }

    /** Some calls ask first whether the drive allows the change, so a step takes three calls at the most. */
    void step() {
        int one = below(2);
        switch (below(12)) {
            case 0, 1, 2, 3 -> tell();
            case 4, 5, 6 -> workOrWake(one);
            case 7 -> drive.pass(1 + below(2));
            case 8 -> cancelIfTold(below(MOST_ORDERS));
            case 9 -> drive.setDelay(one, below(3));
            case 10 -> drive.setAlarm(one, below(4));
            default -> sleepOrLose(one);
        }
    }

    private void tell() {
        if (orders == MOST_ORDERS) {
            drive.pass(1);
            return;
        }
        int kind = below(6) == 0 ? 3 : addsAlone ? 1 : below(3);
        kinds[orders] = kind;
        blocks[orders] = kind == 3 ? 0 : below(BLOCKS);
        operands[orders] = kind == 3 ? 0 : kind == 2 ? below(BLOCKS) : 1 << orders;
        drive.order(0, orders, kind, blocks[orders], operands[orders]);
        orders++;
    }

    private void workOrWake(int one) {
        if (drive.controller(one, 0) == 1) {
            drive.work(one, 1 + below(3));
        } else {
            drive.wake(one);
        }
    }

    private void cancelIfTold(int order) {
        if (order < orders && drive.orderOf(order, 5) == 0) {
            drive.cancel(0, order);
        }
    }

    private void sleepOrLose(int one) {
        if (below(4) == 0) {
            drive.lose(one);
        } else if (drive.controller(one, 0) == 1) {
            drive.sleep(one);
        }
    }

    int[] states() {
        int[] states = new int[orders];
        for (int order = 0; order < orders; order++) {
            states[order] = drive.orderOf(order, 5);
        }
        return states;
    }

    int openOrders() {
        return drive.whole(1) + drive.whole(2);
    }

    /** Is one of both a fence, or do they touch a common block? */
    boolean meet(int one, int other) {
        return kinds[one] == 3 || kinds[other] == 3 || touches(one, blocks[other])
                || kinds[other] == 2 && touches(one, operands[other]);
    }

    private boolean touches(int order, int block) {
        return blocks[order] == block || kinds[order] == 2 && operands[order] == block;
    }
}
