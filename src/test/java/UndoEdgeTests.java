import java.math.BigInteger;

/**
 * Boundary cases of undo and of the digest, promises 26 and 27. The remark at each test tells the sentence of the
 * document that it holds.
 */
final class UndoEdgeTests {
    private static final long[] EMPTY_CONTROLLER = {1, 0, 0, 0, 0, 0, 0, 0, 0, -1};

    private UndoEdgeTests() {
    }

    /** The document's hash in numbers that know no overflow, brought into 64 bits at its end. */
    private static long hashOf(long[]... parts) {
        BigInteger hash = BigInteger.valueOf(43490);
        for (long[] part : parts) {
            for (long value : part) {
                hash = hash.multiply(BigInteger.valueOf(31)).add(BigInteger.valueOf(value));
            }
        }
        Check.holds("the hash is greater than a long", hash.bitLength() > 64);
        return hash.longValue();
    }

    /** The values of all blocks, each followed by its final value, with those of the one block that is not zero. */
    private static long[] blocks(int block, int value, int finalValue) {
        long[] blocks = new long[32];
        blocks[2 * block] = value;
        blocks[2 * block + 1] = finalValue;
        return blocks;
    }

    private static void undoes(String what, WokenDrive drive, Check.Call call) {
        long before = drive.digest();
        call.answer();
        Check.same("states left after the undo of " + what, 0, drive.undo());
        Check.same("digest after the undo of " + what, before, drive.digest());
    }

    // ---- undo

    /**
     * "saves the whole state .. when it ends normally, also if it changes nothing": each undoable method of an empty
     * drive.
     */
    static void promiseTermsEveryUndoableMethodSaves() {
        WokenDrive drive = new WokenDrive();
        undoes("order", drive, () -> drive.order(0, 0, 0, 0, 0));
        undoes("sleep", drive, () -> drive.sleep(0));
        undoes("setDelay that changes nothing", drive, () -> drive.setDelay(0, 0));
        undoes("setAlarm that changes nothing", drive, () -> drive.setAlarm(1, 0));
        undoes("work that does nothing", drive, () -> drive.work(1, 1));
        undoes("pass", drive, () -> drive.pass(1));
        undoes("lose of an empty mailbox", drive, () -> drive.lose(0));
        undoes("run of an empty text", drive, drive::runCommands);
    }

    /** "saves the whole state": cancel and wake, which an empty drive refuses. */
    static void promiseTermsCancelAndWakeSave() {
        WokenDrive drive = new WokenDrive();
        drive.order(0, 0, 0, 0, 1);
        drive.cancel(0, 0);
        Check.same("states left", 1, drive.undo());
        Check.same("state", 0, drive.orderOf(0, 5));
        drive.sleep(1);
        drive.wake(1);
        Check.same("states left", 2, drive.undo());
        Check.same("awake", 0, drive.controller(1, 0));
    }

    /** "the whole state": the marker, the order torn, and the block, so that what is torn is finished once again. */
    static void promiseTermsMarkerIsRestored() {
        WokenDrive drive = Drives.torn(2);
        drive.work(1, 3);
        drive.order(3, 0, 0, 5, 1);
        drive.work(1, 3);
        drive.undo();
        drive.undo();
        Check.same("states left", 1, drive.undo());
        Check.wholeFacts(drive, 2, 0, 1, 1, 0, 1, 1, 100, 1, 1, 107);
        Check.same("final value", 107, drive.finalValue(1));
        Check.same("finished", 1, drive.work(1, 1));
        Check.same("block", 107, drive.block(1));
    }

    /** "the whole state": all that is counted of the controllers. */
    static void promiseTermsCountsOfControllersAreRestored() {
        for (int one = 0; one < 2; one++) {
            WokenDrive drive = new WokenDrive();
            drive.order(0, 0, 0, 0, 1);
            drive.work(1 - one, 3);
            drive.order(0, 1, 0, 0, 1);
            drive.work(one, 2);
            Check.controllerFacts(drive, one, 0, 0, 0, 1, 1, 0, 0, 1, 1);
            drive.wake(one);
            drive.work(one, 1);
            Check.controllerFacts(drive, one, 1, 0, 0, 1, 1, 1, 1, 1, 1);
            drive.undo();
            Check.controllerFacts(drive, one, 1, 0, 0, 1, 1, 0, 0, 1, 1);
            drive.undo();
            drive.undo();
            Check.controllerFacts(drive, one, 1, 0, 0, 2, 2, 0, 0, 0, 0);
            drive.undo();
            Check.controllerFacts(drive, one, 1, 0, 0, 1, 1, 0, 0, 0, 0);
        }
    }

    /** "the whole state": an order that takes the place of one undone has nothing of it, not even its arrival. */
    static void promiseTermsOrderInThePlaceOfOneUndone() {
        WokenDrive drive = new WokenDrive();
        drive.setDelay(0, 3);
        drive.order(3, 3, 1, 9, 1);
        drive.work(1, 2);
        drive.undo();
        drive.undo();
        drive.undo();
        drive.order(0, 0, 0, 0, 2);
        Check.same("arrived", 1, drive.controller(0, 4));
        Check.orderFacts(drive, 0, 0, 0, 0, 0, 2, 0, -1, 0, -1, 0);
        Check.same("order with the tag undone", -1, drive.orderWith(3, 3));
        drive.undo();
        drive.setDelay(0, 2);
        drive.order(0, 0, 0, 0, 3);
        drive.pass(2);
        drive.undo();
        Check.same("arrived at tick 0", 0, drive.controller(0, 4));
        drive.lose(1);
        Check.same("done at the ticks 0 and 1", 0, drive.pass(2));
        Check.same("done at tick 2", 1, drive.pass(1));
        Check.same("block", 3, drive.block(0));
    }

    /** "the whole state but the command text": of a full drive at the last tick. */
    static void promiseTermsFullDriveIsSavedWhole() {
        WokenDrive drive = new WokenDrive();
        Drives.passTo(drive, 9990);
        drive.setAlarm(0, 20);
        drive.setAlarm(1, 19);
        drive.setDelay(1, 1);
        Drives.tellForty(drive);
        drive.work(0, 1);
        drive.pass(2);
        drive.lose(0);
        Check.same("states left", 3, drive.undo());
        long before = drive.digest();
        drive.pass(7);
        Check.same("tick", 9999, drive.whole(5));
        drive.undo();
        Check.same("digest", before, drive.digest());
        Check.same("ticks left", 23, drive.doneIn());
    }

    /** "but the command text": it is neither brought back nor taken away. */
    static void promiseTermsCommandTextIsNotSaved() {
        WokenDrive drive = new WokenDrive();
        Check.type(drive, "sleep 0;");
        drive.setDelay(0, 1);
        Check.type(drive, "sleep 1;");
        drive.undo();
        Check.same("length", 16, drive.whole(11));
        Check.same("commands", 2, drive.runCommands());
        drive.clearCommands();
        drive.undo();
        Check.same("length", 0, drive.whole(11));
    }

    /** "The saved state is the one from before the call.": of the first call it is the new object. */
    static void promiseTermsSavedStateIsTheOneFromBefore() {
        WokenDrive drive = new WokenDrive();
        long fresh = drive.digest();
        drive.setDelay(1, 20);
        drive.undo();
        Check.same("digest", fresh, drive.digest());
        Check.same("delay", 0, drive.controller(1, 1));
    }

    /** "The stack keeps the latest 4 saved states and drops older ones.": after none to nine calls. */
    static void promiseTermsStackAfterNoneToNineCalls() {
        for (int calls = 0; calls <= 9; calls++) {
            WokenDrive drive = Drives.withSaved(calls);
            int saved = Math.min(calls, 4);
            for (int undone = 1; undone <= saved; undone++) {
                Check.same("states left of " + calls, saved - undone, drive.undo());
                Check.same("delay", calls - undone, drive.controller(0, 1));
            }
            Check.badState(drive, "undo of the empty stack after " + calls, drive::undo);
            Check.same("delay of the oldest state", calls - saved, drive.controller(0, 1));
        }
    }

    /** "The stack keeps the latest 4 saved states": also when it is filled again after an undo. */
    static void promiseTermsStackFilledAgain() {
        for (int undone = 1; undone <= 4; undone++) {
            WokenDrive drive = Drives.withSaved(6);
            for (int call = 0; call < undone; call++) {
                drive.undo();
            }
            for (int call = 11; call < 14; call++) {
                drive.setDelay(0, call);
            }
            Check.same("states left", Math.min(4, 7 - undone) - 1, drive.undo());
            Check.same("delay", 12, drive.controller(0, 1));
            drive.undo();
            Check.same("delay", 11, drive.controller(0, 1));
            drive.undo();
            Check.same("delay of the state undone to", 6 - undone, drive.controller(0, 1));
        }
    }

    // ---- promise 26

    /** "Throws `IllegalStateException` if the stack is empty": at first, and once all is undone. */
    static void promise26EmptyStack() {
        WokenDrive drive = new WokenDrive();
        Check.badState(drive, "undo at first", drive::undo);
        drive.pass(1);
        drive.undo();
        Check.badState(drive, "undo of all", drive::undo);
        Check.same("tick", 0, drive.whole(5));
    }

    /** "Returns the number of states that are left on the stack.": from 3 to 0. */
    static void promise26StatesLeft() {
        WokenDrive drive = Drives.withSaved(4);
        Check.same("states left", 3, drive.undo());
        Check.same("states left", 2, drive.undo());
        Check.same("states left", 1, drive.undo());
        Check.same("states left", 0, drive.undo());
    }

    /** "Restores the latest saved state and removes it from the undo stack.": an undo is not saved itself. */
    static void promise26UndoIsNotSaved() {
        WokenDrive drive = Drives.withSaved(2);
        drive.undo();
        drive.undo();
        Check.same("delay", 0, drive.controller(0, 1));
        Check.badState(drive, "undo of an undo", drive::undo);
    }

    // ---- promise 27

    /** "It starts with h = 43490.": the digest of a new object, worked out by hand. */
    static void promise27DigestOfTheEmptyDrive() {
        WokenDrive drive = new WokenDrive();
        long due = hashOf(new long[] {0}, new long[] {0, 0, 0, 0, 0, 0, -1, 0, 0, 2, 0, 0}, blocks(0, 0, 0),
                EMPTY_CONTROLLER, EMPTY_CONTROLLER);
        Check.same("digest", due, drive.digest());
        Check.same("digest as a number", -8456330669930001795L, drive.digest());
    }

    /** "h becomes 31 * h + v (long arithmetic, overflow wraps)": over and below zero. */
    static void promise27HashWrapsAround() {
        boolean below = false;
        boolean over = false;
        for (int length = 0; length <= 20; length++) {
            WokenDrive drive = new WokenDrive();
            Check.type(drive, "w".repeat(length));
            long due = hashOf(new long[] {0}, new long[] {0, 0, 0, 0, 0, 0, -1, 0, 0, 2, 0, length}, blocks(0, 0, 0),
                    EMPTY_CONTROLLER, EMPTY_CONTROLLER);
            Check.same("digest", due, drive.digest());
            below |= due < 0;
            over |= due > 0;
        }
        Check.holds("some are below zero, some are over it", below && over);
    }

    /**
     * "the number of states on the undo stack; whole() of 0 to 11; for each block block(), and finalValue()": a torn
     * order.
     */
    static void promise27DigestOfATornOrder() {
        WokenDrive drive = new WokenDrive();
        drive.setDelay(1, 2);
        drive.order(3, 30, 1, 15, -7);
        drive.work(0, 1);
        drive.type('!');
        long due = hashOf(new long[] {3}, new long[] {1, 0, 1, 0, 0, 0, 0, 0, 0, 1, 0, 1}, blocks(15, 0, -7),
                new long[] {3, 30, 1, 15, -7, 1, -1, 0, -1, 0, -1, 0},
                new long[] {0, 0, 0, 1, 1, 0, 0, 0, 1, 0, 0}, new long[] {1, 2, 0, 1, 0, 0, 0, 0, 0, 0, 0});
        Check.same("digest", due, drive.digest());
    }

    /** "for each order in turn orderOf() of 0 to 9, waitsFor(), and depth(); for each controller in turn .." */
    static void promise27DigestOfSeveralOrders() {
        WokenDrive drive = new WokenDrive();
        drive.setAlarm(1, 5);
        drive.order(0, 1, 0, 2, 9);
        drive.order(0, 2, 1, 2, 1);
        drive.order(0, 3, 3, 0, 0);
        drive.order(0, 4, 0, 0, 0);
        drive.cancel(0, 4);
        drive.work(1, 3);
        long due = hashOf(new long[] {4}, new long[] {4, 2, 0, 1, 1, 0, 0, 0, 0, 2, 9, 0}, blocks(2, 9, 10),
                new long[] {0, 1, 0, 2, 9, 2, 1, 0, 0, 0, -1, -1}, new long[] {0, 2, 1, 2, 1, 0, -1, 0, -1, 0, -1, 0},
                new long[] {0, 3, 3, 0, 0, 0, -1, 0, -1, 0, 1, 1}, new long[] {0, 4, 0, 0, 0, 3, -1, 0, -1, 0, -1, -1},
                new long[] {1, 0, 0, 4, 4, 0, 0, 0, 0, 0, 1, 2, 3, 1},
                new long[] {1, 0, 5, 3, 3, 1, 0, 0, 0, 1, 2, 3, 1});
        Check.same("digest", due, drive.digest());
    }

    /** "mail() for each order in its mailbox": none, and all forty. */
    static void promise27DigestOfTheFullDrive() {
        WokenDrive drive = Drives.full();
        drive.lose(1);
        long[][] parts = new long[45][];
        parts[0] = new long[] {4};
        parts[1] = new long[] {40, 40, 0, 0, 0, 0, -1, 0, 0, 2, 0, 0};
        parts[2] = new long[32];
        for (int block = 0; block < 16; block++) {
            parts[2][2 * block + 1] = block < 8 ? block + 33 : block + 17;
        }
        for (int order = 0; order < 40; order++) {
            long waits = order < 16 ? -1 : order % 16;
            parts[3 + order] = new long[] {order / 32, order % 32, 0, order % 16, order + 1, 0, -1, 0, -1, 0, waits,
                order / 16};
        }
        parts[43] = new long[50];
        parts[43][0] = 1;
        parts[43][3] = 40;
        parts[43][4] = 40;
        for (int order = 0; order < 40; order++) {
            parts[43][9 + order] = order;
        }
        parts[44] = EMPTY_CONTROLLER;
        Check.same("digest", hashOf(parts), drive.digest());
    }
}
