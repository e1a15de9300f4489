/** Promises 17 to 22: waitsFor, depth, nextFor, reason, doneIn and finalValue. */
final class WhatIfTests {
    private WhatIfTests() {
    }

    private static void waits(WokenDrive drive, long... due) {
        for (int order = 0; order < due.length; order++) {
            Check.same("waitsFor(" + order + ")", due[order], drive.waitsFor(order));
        }
    }

    private static void depths(WokenDrive drive, long... due) {
        for (int order = 0; order < due.length; order++) {
            Check.same("depth(" + order + ")", due[order], drive.depth(order));
        }
    }

    private static void reasons(WokenDrive drive, int controller, long... due) {
        for (int order = 0; order < due.length; order++) {
            Check.same("reason(" + controller + ", " + order + ")", due[order], drive.reason(controller, order));
        }
    }

    private static void finals(WokenDrive drive, long... due) {
        for (int block = 0; block < due.length; block++) {
            Check.same("finalValue(" + block + ")", due[block], drive.finalValue(block));
        }
    }

    static void promise17OrdersWaitForCommonBlocks() {
        WokenDrive drive = new WokenDrive();
        drive.order(0, 0, 0, 1, 5);
        drive.order(0, 1, 0, 2, 1);
        drive.order(0, 2, 2, 3, 1);
        drive.order(0, 3, 1, 3, 1);
        drive.order(0, 4, 2, 5, 3);
        drive.order(0, 5, 1, 1, 1);
        drive.order(0, 6, 2, 6, 5);
        drive.order(0, 7, 0, 0, 1);
        waits(drive, -1, -1, 0, 2, 2, 0, 4, -1);
        drive.work(0, 1);
        Check.same("waits for a begun one", 0, drive.waitsFor(2));
        drive.work(1, 3);
        waits(drive, -1, -1, -1, 2, 2, 2, 4, -1);
        drive.cancel(0, 2);
        waits(drive, -1, -1, -1, -1, 3, -1, 4, -1);
    }

    static void promise17FencesWaitAndAreWaitedFor() {
        WokenDrive drive = new WokenDrive();
        drive.order(0, 0, 3, 0, 0);
        drive.order(0, 1, 0, 9, 1);
        drive.order(0, 2, 3, 0, 0);
        drive.order(0, 3, 0, 0, 1);
        waits(drive, -1, 0, 0, 0);
        drive.work(0, 3);
        waits(drive, -1, -1, 1, 2);
        drive.work(0, 3);
        waits(drive, -1, -1, -1, 2);
    }

    static void promise17WaitsForRefusals() {
        WokenDrive drive = new WokenDrive();
        Check.badIndex(drive, "waitsFor(0)", () -> drive.waitsFor(0));
        drive.order(0, 0, 0, 0, 0);
        Check.badIndex(drive, "waitsFor(-1)", () -> drive.waitsFor(-1));
        Check.badIndex(drive, "waitsFor(1)", () -> drive.waitsFor(1));
    }

    static void promise18DepthIsTheLongestChain() {
        WokenDrive drive = new WokenDrive();
        drive.order(0, 0, 0, 0, 1);
        drive.order(0, 1, 0, 1, 1);
        drive.order(0, 2, 2, 1, 0);
        drive.order(0, 3, 1, 1, 1);
        drive.order(0, 4, 2, 0, 2);
        drive.order(0, 5, 2, 2, 1);
        drive.order(0, 6, 0, 7, 1);
        drive.order(0, 7, 3, 0, 0);
        drive.order(0, 8, 0, 8, 1);
        depths(drive, 0, 0, 1, 2, 2, 3, 0, 4, 5);
        drive.cancel(0, 2);
        depths(drive, 0, 0, -1, 1, 1, 2, 0, 3, 4);
        drive.work(0, 3);
        depths(drive, -1, 0, -1, 1, 0, 2, 0, 3, 4);
        drive.work(0, 1);
        depths(drive, -1, 0, -1, 1, 0, 2, 0, 3, 4);
    }

    static void promise18DepthRefusals() {
        WokenDrive drive = new WokenDrive();
        Check.badIndex(drive, "depth(0)", () -> drive.depth(0));
        drive.order(0, 0, 0, 0, 0);
        Check.badIndex(drive, "depth(-1)", () -> drive.depth(-1));
        Check.badIndex(drive, "depth(1)", () -> drive.depth(1));
    }

    static void promise19NextForTellsTheOrderThatWouldBeTaken() {
        WokenDrive drive = new WokenDrive();
        Check.same("next without mail", -1, drive.nextFor(0));
        drive.setDelay(1, 1);
        drive.order(0, 0, 0, 0, 1);
        drive.order(0, 1, 0, 0, 2);
        drive.setDelay(1, 0);
        drive.order(0, 2, 0, 1, 2);
        Check.same("next for 0", 0, drive.nextFor(0));
        Check.same("next for 1", 2, drive.nextFor(1));
        drive.sleep(0);
        Check.same("next for a sleeper", 0, drive.nextFor(0));
        drive.lose(0);
        Check.same("next without mail", -1, drive.nextFor(0));
        drive.work(1, 2);
        Check.same("next is the torn one", 2, drive.nextFor(0));
        Check.same("next is the torn one", 2, drive.nextFor(1));
        Check.badIndex(drive, "nextFor(-1)", () -> drive.nextFor(-1));
        Check.badIndex(drive, "nextFor(2)", () -> drive.nextFor(2));
    }

    static void promise20ReasonTellsTheFirstThatApplies() {
        WokenDrive drive = new WokenDrive();
        drive.order(0, 0, 0, 0, 1);
        drive.lose(0);
        drive.setDelay(0, 2);
        drive.order(0, 1, 0, 0, 1);
        drive.order(0, 2, 0, 1, 1);
        drive.setDelay(0, 0);
        drive.order(0, 3, 0, 0, 1);
        drive.order(0, 4, 0, 4, 1);
        drive.order(0, 5, 0, 5, 1);
        drive.order(0, 6, 0, 6, 1);
        drive.cancel(0, 6);
        reasons(drive, 0, 3, 4, 4, 5, 0, 6, 1);
        reasons(drive, 1, 0, 5, 6, 5, 6, 6, 1);
        drive.sleep(0);
        reasons(drive, 0, 3, 4, 4, 5, 0, 6, 1);
        drive.work(1, 1);
        reasons(drive, 0, 0, 2, 2, 2, 2, 2, 1);
        reasons(drive, 1, 0, 2, 2, 2, 2, 2, 1);
        drive.wake(0);
        drive.work(0, 3);
        reasons(drive, 0, 1, 4, 4, 5, 0, 6, 1);
    }

    static void promise20ReasonRefusals() {
        WokenDrive drive = new WokenDrive();
        Check.badIndex(drive, "reason(0, 0)", () -> drive.reason(0, 0));
        drive.order(0, 0, 0, 0, 0);
        Check.badIndex(drive, "reason(-1, 0)", () -> drive.reason(-1, 0));
        Check.badIndex(drive, "reason(2, 0)", () -> drive.reason(2, 0));
        Check.badIndex(drive, "reason(0, -1)", () -> drive.reason(0, -1));
        Check.badIndex(drive, "reason(0, 1)", () -> drive.reason(0, 1));
    }

    static void promise21DoneInForeseesTheTicks() {
        WokenDrive drive = new WokenDrive();
        Check.same("without orders", 0, drive.doneIn());
        drive.order(0, 0, 1, 0, 1);
        Check.same("one order", 1, drive.doneIn());
        drive.order(0, 1, 1, 1, 1);
        drive.order(0, 2, 1, 2, 1);
        Check.same("three orders", 2, drive.doneIn());
        drive.sleep(0);
        Check.same("three orders of one awake", 3, drive.doneIn());
        drive.sleep(1);
        Check.same("none awake", -1, drive.doneIn());
        drive.pass(1);
        drive.setAlarm(1, 20);
        Check.same("woken at tick 20", 22, drive.doneIn());
        long before = drive.digest();
        drive.doneIn();
        Check.same("digest", before, drive.digest());
        drive.cancel(0, 0);
        drive.cancel(0, 1);
        drive.cancel(0, 2);
        Check.same("all cancelled", 0, drive.doneIn());
    }

    static void promise21DoneInCountsTornOrders() {
        WokenDrive drive = new WokenDrive();
        drive.order(0, 0, 1, 0, 1);
        drive.order(0, 1, 1, 1, 1);
        drive.work(0, 1);
        Check.same("one told, one begun", 2, drive.doneIn());
        drive.cancel(0, 1);
        Check.same("one begun", 1, drive.doneIn());
        drive.sleep(1);
        Check.same("one begun, none awake", -1, drive.doneIn());
    }

    static void promise21DoneInHasALimit() {
        WokenDrive drive = new WokenDrive();
        drive.sleep(0);
        drive.sleep(1);
        drive.pass(1);
        drive.setAlarm(0, 20);
        drive.order(0, 0, 0, 0, 1);
        Check.same("at tick 1", 20, drive.doneIn());
        drive.lose(0);
        drive.lose(1);
        Check.same("lost", -1, drive.doneIn());
        drive.order(0, 1, 0, 1, 1);
        Check.same("one lost", -1, drive.doneIn());
    }

    static void promise22FinalValueDoesAllOpenOrders() {
        WokenDrive drive = new WokenDrive();
        drive.order(0, 0, 0, 1, 5);
        drive.order(0, 1, 2, 2, 1);
        drive.order(0, 2, 1, 1, 3);
        drive.order(0, 3, 3, 0, 0);
        drive.order(0, 4, 2, 3, 1);
        drive.order(0, 5, 0, 4, 9);
        drive.cancel(0, 5);
        drive.lose(0);
        drive.lose(1);
        finals(drive, 0, 8, 5, 8, 0);
        Check.blocks(drive, 0, 0, 0, 0, 0);
        drive.order(1, 0, 0, 0, 77);
        drive.order(1, 1, 2, 15, 0);
        finals(drive, 77, 8, 5, 8, 0);
        Check.same("finalValue(15)", 77, drive.finalValue(15));
    }

    static void promise22FinalValueReckonsATornOrderOnce() {
        for (int steps = 1; steps <= 2; steps++) {
            WokenDrive drive = new WokenDrive();
            drive.order(0, 0, 0, 1, 100);
            drive.work(0, 3);
            drive.order(0, 1, 1, 1, 7);
            drive.order(0, 2, 1, 1, 1);
            drive.order(0, 3, 2, 2, 1);
            drive.work(0, steps);
            finals(drive, 0, 108, 108);
            drive.work(1, 3);
            finals(drive, 0, 108, 108);
            drive.pass(3);
            Check.blocks(drive, 0, 108, 108);
        }
    }

    static void promise22FinalValueRefusals() {
        WokenDrive drive = new WokenDrive();
        Check.badIndex(drive, "finalValue(-1)", () -> drive.finalValue(-1));
        Check.badIndex(drive, "finalValue(16)", () -> drive.finalValue(16));
    }
}
