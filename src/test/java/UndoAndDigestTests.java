/** Promises 26 and 27: undo and digest. */
final class UndoAndDigestTests {
    private UndoAndDigestTests() {
    }

    private static WokenDrive busyDrive() {
        WokenDrive drive = new WokenDrive();
        drive.setDelay(1, 1);
        drive.order(0, 0, 1, 3, 10);
        drive.order(0, 1, 2, 4, 3);
        drive.order(1, 1, 0, 5, -7);
        drive.cancel(1, 1);
        drive.pass(1);
        drive.order(2, 2, 1, 4, 6);
        return drive;
    }

    private static void undoes(String what, WokenDrive drive, Check.Call call) {
        long before = stateOf(drive);
        call.answer();
        drive.undo();
        Check.same("state after the undo of " + what, before, stateOf(drive));
    }

    /** A digest without the number of saved states. */
    private static long stateOf(WokenDrive drive) {
        return digestOf(drive, 0);
    }

    private static long digestOf(WokenDrive drive, int saved) {
        long[] hash = {31L * 43490 + saved};
        for (int what = 0; what < 12; what++) {
            hash[0] = 31 * hash[0] + drive.whole(what);
        }
        for (int block = 0; block < 16; block++) {
            hash[0] = 31 * hash[0] + drive.block(block);
            hash[0] = 31 * hash[0] + drive.finalValue(block);
        }
        for (int order = 0; order < drive.whole(0); order++) {
            for (int what = 0; what < 10; what++) {
                hash[0] = 31 * hash[0] + drive.orderOf(order, what);
            }
            hash[0] = 31 * hash[0] + drive.waitsFor(order);
            hash[0] = 31 * hash[0] + drive.depth(order);
        }
        for (int controller = 0; controller < 2; controller++) {
            for (int what = 0; what < 9; what++) {
                hash[0] = 31 * hash[0] + drive.controller(controller, what);
            }
            for (int index = 0; index < drive.controller(controller, 3); index++) {
                hash[0] = 31 * hash[0] + drive.mail(controller, index);
            }
            hash[0] = 31 * hash[0] + drive.nextFor(controller);
        }
        return hash[0];
    }

    /** "Every method that is marked .. saves the whole state": each of them, on a drive with some of everything. */
    static void promise26UndoRestoresEveryUndoableCall() {
        WokenDrive drive = busyDrive();
        undoes("order", drive, () -> drive.order(3, 3, 0, 9, 9));
        undoes("cancel", drive, () -> drive.cancel(2, 2));
        undoes("sleep", drive, () -> drive.sleep(0));
        drive.sleep(0);
        undoes("wake", drive, () -> drive.wake(0));
        undoes("setDelay", drive, () -> drive.setDelay(0, 9));
        undoes("setAlarm", drive, () -> drive.setAlarm(0, 9));
        undoes("work of three steps", drive, () -> drive.work(1, 3));
        undoes("work of two steps", drive, () -> drive.work(1, 2));
        undoes("work of one step", drive, () -> drive.work(1, 1));
        undoes("pass", drive, () -> drive.pass(9));
        undoes("lose", drive, () -> drive.lose(1));
        Check.type(drive, "work 1 2;ticks 3;");
        undoes("runCommands", drive, drive::runCommands);
        drive.work(1, 2);
        drive.wake(0);
        undoes("work that finishes", drive, () -> drive.work(0, 2));
    }

    static void promise26CallsThatChangeNothingAreSavedToo() {
        WokenDrive drive = new WokenDrive();
        drive.setDelay(0, 0);
        drive.lose(0);
        drive.work(0, 3);
        Check.same("states left", 2, drive.undo());
        Check.same("states left", 1, drive.undo());
        Check.same("states left", 0, drive.undo());
    }

    /** "Every method that is marked .. saves the whole state": those that are not marked save nothing. */
    static void promise26CallsThatOnlyAskAreNotSaved() {
        WokenDrive drive = new WokenDrive();
        drive.order(0, 0, 0, 0, 1);
        drive.block(0);
        drive.orderOf(0, 0);
        drive.orderWith(0, 0);
        drive.controller(0, 0);
        drive.mail(0, 0);
        drive.whole(0);
        drive.waitsFor(0);
        drive.depth(0);
        drive.nextFor(0);
        drive.reason(0, 0);
        drive.doneIn();
        drive.finalValue(0);
        drive.digest();
        drive.type(' ');
        drive.clearCommands();
        drive.type('?');
        drive.runCommands();
        Check.same("states left", 0, drive.undo());
    }

    static void promise26RefusedCallsAreNotSaved() {
        WokenDrive drive = new WokenDrive();
        drive.setDelay(0, 1);
        Check.badState(drive, "wake", () -> drive.wake(0));
        Check.badArgument(drive, "pass", () -> drive.pass(0));
        Check.badIndex(drive, "lose", () -> drive.lose(2));
        Check.same("states left", 0, drive.undo());
        Check.badState(drive, "undo", drive::undo);
    }

    static void promise26StackKeepsTheLatestFour() {
        WokenDrive drive = new WokenDrive();
        for (int delay = 1; delay <= 9; delay++) {
            drive.setDelay(0, delay);
        }
        for (int left = 3; left >= 0; left--) {
            Check.same("states left", left, drive.undo());
            Check.same("delay", 5 + left, drive.controller(0, 1));
        }
        Check.badState(drive, "undo", drive::undo);
        drive.setDelay(0, 20);
        drive.setDelay(0, 19);
        Check.same("states left", 1, drive.undo());
        Check.same("delay", 20, drive.controller(0, 1));
        Check.same("states left", 0, drive.undo());
        Check.same("delay", 5, drive.controller(0, 1));
    }

    static void promise26CommandTextIsLeftAlone() {
        WokenDrive drive = new WokenDrive();
        Check.type(drive, "sleep 0;");
        drive.runCommands();
        drive.clearCommands();
        Check.type(drive, "sleep 1;");
        drive.undo();
        Check.same("awake", 2, drive.whole(9));
        Check.same("length", 8, drive.whole(11));
        Check.same("commands", 1, drive.runCommands());
        Check.same("awake 1", 0, drive.controller(1, 0));
    }

    static void promise27DigestOfANewObject() {
        WokenDrive drive = new WokenDrive();
        Check.same("digest", digestOf(drive, 0), drive.digest());
    }

    static void promise27DigestMixesAllValuesInTheirOrder() {
        WokenDrive drive = busyDrive();
        long got = drive.digest();
        Check.same("digest", digestOf(drive, 4), got);
        drive.undo();
        got = drive.digest();
        Check.same("digest", digestOf(drive, 3), got);
        drive.lose(0);
        drive.type(9);
        drive.work(1, 1);
        got = drive.digest();
        Check.same("digest", digestOf(drive, 4), got);
        Check.same("digest asked again", got, drive.digest());
    }
}
