/**
 * Boundary cases of the promises 17 to 22. The remark at each test tells the sentence of the document that it holds.
 */
final class WhatIfEdgeTests {
    private WhatIfEdgeTests() {
    }

    /** Forty orders of one block, each of which waits for all before it. */
    private static WokenDrive chain() {
        WokenDrive drive = new WokenDrive();
        tellChain(drive);
        return drive;
    }

    private static void tellChain(WokenDrive drive) {
        for (int order = 0; order < 40; order++) {
            drive.order(order / 32, order % 32, 1, 15, 1);
        }
    }

    private static void reasons(WokenDrive drive, int controller, long... due) {
        for (int order = 0; order < due.length; order++) {
            Check.same("reason(" + controller + ", " + order + ")", due[order], drive.reason(controller, order));
        }
    }

    // ---- promise 17

    /**
     * "`order`: number of an order": of none, and of forty; "Throws `IndexOutOfBoundsException` if there is no such
     * order"
     */
    static void promise17OrderRange() {
        WokenDrive empty = new WokenDrive();
        Check.badIndex(empty, "order 0 of none", () -> empty.waitsFor(0));
        Check.outside("order of forty", 0, 39, Check.INDEX, WhatIfEdgeTests::chain, WokenDrive::waitsFor);
        WokenDrive drive = chain();
        Check.same("first one", -1, drive.waitsFor(0));
        Check.same("last one", 0, drive.waitsFor(39));
    }

    /** "Returns the order, the one with the lowest number": the next one when that is done or cancelled. */
    static void promise17LowestOpenOne() {
        WokenDrive drive = chain();
        Check.same("all open", 0, drive.waitsFor(39));
        drive.work(0, 3);
        Check.same("first one done", 1, drive.waitsFor(39));
        drive.cancel(0, 1);
        Check.same("second one cancelled", 2, drive.waitsFor(39));
        drive.work(0, 1);
        Check.same("third one begun", 2, drive.waitsFor(39));
        drive.pass(36);
        Check.same("all before it over", -1, drive.waitsFor(38));
        Check.same("all before it over but one", 38, drive.waitsFor(39));
    }

    /** "NONE if it waits for none, or is not open": a done or cancelled one waits for none. */
    static void promise17NoneIfItIsNotOpen() {
        WokenDrive drive = new WokenDrive();
        drive.setDelay(0, 1);
        drive.order(0, 0, 0, 5, 1);
        drive.order(0, 1, 0, 5, 1);
        drive.order(0, 2, 3, 0, 0);
        drive.cancel(0, 1);
        drive.cancel(0, 2);
        Check.same("first one", -1, drive.waitsFor(0));
        Check.same("cancelled write", -1, drive.waitsFor(1));
        Check.same("cancelled fence", -1, drive.waitsFor(2));
        drive.work(1, 3);
        Check.same("done one", -1, drive.waitsFor(0));
    }

    // ---- promise 18

    /**
     * "`order`: number of an order": of none, and of forty; "Throws `IndexOutOfBoundsException` if there is no such
     * order"
     */
    static void promise18OrderRange() {
        WokenDrive empty = new WokenDrive();
        Check.badIndex(empty, "order 0 of none", () -> empty.depth(0));
        Check.range("order of forty", 0, 39, Check.INDEX, WhatIfEdgeTests::chain, WokenDrive::depth);
    }

    /** "0 if it waits for none" */
    static void promise18ZeroIfItWaitsForNone() {
        WokenDrive drive = new WokenDrive();
        for (int order = 0; order < 16; order++) {
            drive.order(0, order, 0, order, 1);
        }
        for (int order = 0; order < 16; order++) {
            Check.same("depth", 0, drive.depth(order));
        }
    }

    /** "otherwise 1 + the greatest number of those for which it waits": from 0 to 39, and less as orders are done. */
    static void promise18ChainOfForty() {
        WokenDrive drive = chain();
        for (int order = 0; order < 40; order++) {
            Check.same("depth", order, drive.depth(order));
        }
        drive.pass(1);
        drive.cancel(0, 2);
        Check.same("depth with three less", 36, drive.depth(39));
    }

    /** "1 + the greatest number of those for which it waits": not of the first or of the last one. */
    static void promise18GreatestOfThoseForWhichItWaits() {
        WokenDrive drive = new WokenDrive();
        drive.order(0, 0, 0, 1, 1);
        drive.order(0, 1, 0, 2, 1);
        drive.order(0, 2, 0, 2, 1);
        drive.order(0, 3, 0, 3, 1);
        drive.order(0, 4, 3, 0, 0);
        Check.same("depth of the fence", 2, drive.depth(4));
        drive.cancel(0, 1);
        Check.same("depth of the fence", 1, drive.depth(4));
    }

    /** "Returns the number; NONE if it is not open." */
    static void promise18NoneIfItIsNotOpen() {
        WokenDrive drive = chain();
        drive.cancel(1, 7);
        drive.work(0, 3);
        drive.work(0, 1);
        Check.same("done", -1, drive.depth(0));
        Check.same("begun", 0, drive.depth(1));
        Check.same("told", 37, drive.depth(38));
        Check.same("cancelled", -1, drive.depth(39));
    }

    // ---- promise 19

    /** "`controller`: 0 or 1"; "Throws `IndexOutOfBoundsException` if there is no such controller" */
    static void promise19ControllerRange() {
        Check.range("controller", 0, 1, Check.INDEX, () -> {
            WokenDrive drive = new WokenDrive();
            drive.order(0, 0, 0, 0, 1);
            drive.lose(1);
            drive.order(0, 1, 0, 1, 1);
            return drive;
        }, WokenDrive::nextFor);
    }

    /** "NONE if there is none": an empty mailbox, none arrived, none open, each waits. */
    static void promise19NoneInEachCase() {
        WokenDrive drive = new WokenDrive();
        Check.same("empty mailbox", -1, drive.nextFor(0));
        drive.setDelay(0, 1);
        drive.order(0, 0, 0, 5, 1);
        Check.same("none has arrived", -1, drive.nextFor(0));
        drive.cancel(0, 0);
        Check.same("none is open", -1, drive.nextFor(1));
        drive.order(0, 1, 0, 5, 1);
        drive.setDelay(0, 0);
        drive.order(0, 2, 0, 5, 1);
        Check.same("the one that has arrived waits", -1, drive.nextFor(0));
        Check.same("for the other one", 1, drive.nextFor(1));
    }

    /** "Returns the order that a controller would finish or take": from the first order to the last of forty. */
    static void promise19FromTheFirstToTheLast() {
        WokenDrive drive = chain();
        for (int order = 0; order < 40; order++) {
            Check.same("next", order, drive.nextFor(order % 2));
            Check.same("work", 2, drive.work(0, 3));
        }
        Check.same("next with all done", -1, drive.nextFor(0));
        Check.same("next with all done", -1, drive.nextFor(1));
    }

    /** "if it was awake and worked now": a sleeper would finish a torn order that never came to it. */
    static void promise19SleeperWouldFinishATornOrder() {
        WokenDrive drive = Drives.torn(1);
        drive.sleep(1);
        drive.lose(0);
        drive.lose(1);
        Check.same("next for 0", 1, drive.nextFor(0));
        Check.same("next for 1", 1, drive.nextFor(1));
    }

    // ---- promise 20

    /** "Throws `IndexOutOfBoundsException` if there is no such controller or order" */
    static void promise20ControllerAndOrderRange() {
        WokenDrive empty = new WokenDrive();
        Check.badIndex(empty, "order 0 of none", () -> empty.reason(0, 0));
        Check.badIndex(empty, "neither", () -> empty.reason(2, 0));
        Check.outside("controller", 0, 1, Check.INDEX, Drives::full, (drive, one) -> drive.reason(one, 0));
        Check.outside("order", 0, 39, Check.INDEX, Drives::full, (drive, order) -> drive.reason(1, order));
        WokenDrive drive = Drives.full();
        Check.same("first order", 0, drive.reason(1, 0));
        Check.same("last order", 5, drive.reason(1, 39));
    }

    /** "Returns 0 it would take or finish it": a sleeper too, and a torn order that never came to it. */
    static void promise20WouldTakeOrFinish() {
        WokenDrive drive = new WokenDrive();
        drive.sleep(0);
        drive.setDelay(1, 20);
        drive.order(0, 0, 0, 0, 1);
        Check.same("sleeper", 0, drive.reason(0, 0));
        Check.same("has not arrived", 4, drive.reason(1, 0));
        drive.wake(0);
        drive.work(0, 2);
        Check.same("torn one that has not arrived", 0, drive.reason(1, 0));
        drive.lose(0);
        Check.same("torn one that is not in the mailbox", 0, drive.reason(0, 0));
    }

    /** "1 it is not open": before all others, whether it is in the mailbox or not. */
    static void promise20NotOpenGoesFirst() {
        WokenDrive drive = new WokenDrive();
        drive.setDelay(0, 20);
        drive.order(0, 0, 0, 0, 1);
        drive.order(0, 1, 0, 0, 1);
        drive.order(0, 2, 0, 2, 1);
        drive.cancel(0, 1);
        Check.same("cancelled one that has not arrived", 1, drive.reason(0, 1));
        drive.work(1, 3);
        Check.same("done one that is not in the mailbox", 1, drive.reason(1, 0));
        drive.work(1, 1);
        Check.same("done one with a torn one", 1, drive.reason(1, 0));
        Check.same("cancelled one with a torn one", 1, drive.reason(0, 1));
    }

    /** "2 the order of the marker is begun, and is another one": before those that follow. */
    static void promise20TornOneGoesBeforeTheRest() {
        WokenDrive drive = new WokenDrive();
        drive.order(0, 0, 0, 0, 1);
        drive.order(0, 1, 0, 1, 1);
        drive.lose(0);
        drive.setDelay(0, 20);
        drive.order(0, 2, 0, 0, 1);
        reasons(drive, 0, 3, 3, 4);
        drive.work(1, 1);
        reasons(drive, 0, 0, 2, 2);
        reasons(drive, 1, 0, 2, 2);
        drive.wake(1);
        drive.work(1, 1);
        reasons(drive, 0, 1, 3, 4);
    }

    /** "3 it is not in its mailbox": before its not having arrived and its waiting. */
    static void promise20NotInTheMailboxGoesBeforeNotArrived() {
        for (int one = 0; one < 2; one++) {
            WokenDrive drive = new WokenDrive();
            drive.setDelay(one, 20);
            drive.order(0, 0, 0, 0, 1);
            drive.order(0, 1, 0, 0, 1);
            drive.lose(one);
            reasons(drive, one, 3, 3);
            reasons(drive, 1 - one, 0, 5);
        }
    }

    /** "4 it has not arrived": before its waiting; to the very tick. */
    static void promise20NotArrivedGoesBeforeWaiting() {
        for (int one = 0; one < 2; one++) {
            WokenDrive drive = Drives.asleep();
            drive.setDelay(one, 1);
            drive.order(0, 0, 0, 0, 1);
            drive.order(0, 1, 0, 0, 1);
            reasons(drive, one, 4, 4);
            reasons(drive, 1 - one, 0, 5);
            drive.pass(1);
            reasons(drive, one, 0, 5);
        }
    }

    /** "5 it waits": before another one being taken. */
    static void promise20WaitingGoesBeforeAnotherOneTaken() {
        WokenDrive drive = new WokenDrive();
        drive.order(0, 0, 0, 0, 1);
        drive.order(0, 1, 0, 0, 1);
        drive.order(0, 2, 0, 1, 1);
        reasons(drive, 0, 0, 5, 6);
    }

    /** "5 it waits": also if none is taken, as the one that it waits for is in no mailbox. */
    static void promise20WaitingWithNoneTaken() {
        WokenDrive drive = new WokenDrive();
        drive.order(0, 0, 3, 0, 0);
        drive.lose(0);
        drive.order(0, 1, 0, 1, 1);
        Check.same("next", -1, drive.nextFor(0));
        reasons(drive, 0, 3, 5);
    }

    /** "6 another one is taken": of forty all but the first one. */
    static void promise20AnotherOneIsTaken() {
        WokenDrive drive = new WokenDrive();
        for (int order = 0; order < 16; order++) {
            drive.order(3, order, 0, order, 1);
        }
        for (int one = 0; one < 2; one++) {
            reasons(drive, one, 0, 6, 6, 6, 6, 6, 6, 6, 6, 6, 6, 6, 6, 6, 6, 6);
        }
    }

    // ---- promise 21

    /** "Tells after how many ticks no order is open": 0 of an empty drive, and of one whose orders are over. */
    static void promise21ZeroIfNoneIsOpen() {
        WokenDrive drive = new WokenDrive();
        Check.same("no orders", 0, drive.doneIn());
        drive.order(0, 0, 0, 0, 1);
        drive.order(0, 1, 0, 0, 1);
        drive.cancel(0, 1);
        Check.same("one open", 1, drive.doneIn());
        drive.pass(1);
        Check.same("done or cancelled", 0, drive.doneIn());
        drive.sleep(0);
        drive.sleep(1);
        Check.same("both asleep", 0, drive.doneIn());
    }

    /**
     * "Returns the ticks, 0 to 200": sixty is the most that there can be, with a delay of 20 and forty orders for one.
     */
    static void promise21SixtyTicksAtTheMost() {
        WokenDrive drive = new WokenDrive();
        drive.sleep(0);
        drive.setDelay(1, 20);
        tellChain(drive);
        for (int passed = 0; passed < 60; passed++) {
            Check.same("ticks left", 60 - passed, drive.doneIn());
            drive.pass(1);
        }
        Check.same("ticks left", 0, drive.doneIn());
    }

    /** "Returns the ticks, 0 to 200": with a sleeper whose alarm of 20 has just rung. */
    static void promise21AlarmThatHasJustRung() {
        WokenDrive drive = Drives.asleep();
        drive.pass(1);
        drive.setAlarm(0, 20);
        tellChain(drive);
        Check.same("ticks left", 59, drive.doneIn());
        drive.pass(19);
        Check.same("ticks left", 40, drive.doneIn());
    }

    /**
     * "NONE if it would take more": without end, as both sleep, as an order was lost, or as it waits for a lost one.
     */
    static void promise21NoneIfItNeverEnds() {
        WokenDrive asleep = Drives.asleep();
        asleep.order(0, 0, 0, 0, 1);
        Check.same("both asleep", -1, asleep.doneIn());
        WokenDrive drive = new WokenDrive();
        drive.order(0, 0, 3, 0, 0);
        drive.lose(0);
        Check.same("lost by one", 1, drive.doneIn());
        drive.lose(1);
        Check.same("lost by both", -1, drive.doneIn());
        drive.order(0, 1, 0, 0, 1);
        Check.same("waits for a lost one", -1, drive.doneIn());
        drive.cancel(0, 0);
        Check.same("waits for none", 1, drive.doneIn());
    }

    /** "if nothing but ticks passed": a begun order without anyone awake is not finished. */
    static void promise21TornOrderWithoutAnyoneAwake() {
        WokenDrive drive = Drives.torn(2);
        Check.same("one awake", 1, drive.doneIn());
        drive.sleep(1);
        Check.same("none awake", -1, drive.doneIn());
        drive.setAlarm(0, 1);
        Check.same("one with an alarm", 1, drive.doneIn());
    }

    /** "(also beyond the tick 9999)" */
    static void promise21BeyondTheLastTick() {
        WokenDrive drive = Drives.atTick(9999);
        drive.setDelay(0, 20);
        drive.sleep(1);
        drive.order(0, 0, 0, 0, 1);
        Check.same("arrives at tick 10019", 21, drive.doneIn());
        drive.setAlarm(1, 20);
        Check.same("wakes at tick 10000", 2, drive.doneIn());
        drive.wake(1);
        Check.same("done at tick 9999", 1, drive.doneIn());
        Check.badState(drive, "pass(1)", () -> drive.pass(1));
    }

    /** "what if, which changes nothing": not even after many ticks foreseen. */
    static void promise21ForeseeingChangesNothing() {
        WokenDrive drive = chain();
        drive.setAlarm(1, 3);
        drive.work(1, 1);
        long before = drive.digest();
        Check.same("ticks left", 20, drive.doneIn());
        Check.same("digest", before, drive.digest());
        Check.same("done in them but the last", 38, drive.pass(19));
        Check.same("done in the last one", 2, drive.pass(1));
    }

    // ---- promise 22

    /** "`block`: 0 to 15"; "Throws `IndexOutOfBoundsException` if there is no such block" */
    static void promise22BlockRange() {
        Check.range("block", 0, 15, Check.INDEX, () -> {
            WokenDrive drive = new WokenDrive();
            for (int block = 0; block < 16; block++) {
                drive.order(0, block, 0, block, block);
            }
            return drive;
        }, WokenDrive::finalValue);
    }

    /** "Returns the value that a block would have if all open orders were done now": its own value if none is open. */
    static void promise22OwnValueIfNoneIsOpen() {
        WokenDrive drive = Drives.full();
        drive.pass(20);
        for (int block = 0; block < 16; block++) {
            Check.same("final value", drive.block(block), drive.finalValue(block));
        }
        Check.same("final value", 40, drive.finalValue(7));
    }

    /** "if all open orders were done now": also those that have not arrived or are in no mailbox, but no others. */
    static void promise22LostAndUndeliveredOrdersCount() {
        WokenDrive drive = new WokenDrive();
        drive.order(0, 0, 1, 15, 1);
        drive.lose(0);
        drive.lose(1);
        drive.setDelay(0, 20);
        drive.setDelay(1, 20);
        drive.order(0, 1, 1, 15, 10);
        drive.order(0, 2, 1, 15, 100);
        drive.cancel(0, 2);
        Check.same("final value", 11, drive.finalValue(15));
        Check.same("value", 0, drive.block(15));
    }

    /** "in the order of their numbers" */
    static void promise22InTheOrderOfTheirNumbers() {
        WokenDrive drive = new WokenDrive();
        drive.order(0, 5, 1, 1, 10);
        drive.order(0, 4, 2, 2, 1);
        drive.order(0, 3, 0, 1, 3);
        drive.order(0, 2, 2, 3, 1);
        drive.order(0, 1, 1, 1, 4);
        drive.order(0, 0, 2, 4, 1);
        int[] due = {0, 7, 10, 3, 7};
        for (int block = 0; block < due.length; block++) {
            Check.same("final value of " + block, due[block], drive.finalValue(block));
        }
    }

    /** "(a begun one by the value of the marker, whatever steps were made)" */
    static void promise22BegunOneByTheMarker() {
        for (int steps = 1; steps <= 3; steps++) {
            WokenDrive drive = Drives.torn(steps);
            Check.same("final value after " + steps, 107, drive.finalValue(1));
            drive.order(2, 2, 1, 1, 999);
            Check.same("final value with another add", 1106, drive.finalValue(1));
        }
    }

    /** "(a begun one by the value of the marker, whatever steps were made)": a begun write, copy and fence. */
    static void promise22BegunOnesOfOtherKinds() {
        for (int steps = 1; steps <= 2; steps++) {
            for (int kind = 0; kind < 4; kind++) {
                WokenDrive drive = new WokenDrive();
                drive.order(0, 0, 0, 0, 40);
                drive.order(0, 1, 0, 2, 50);
                drive.pass(1);
                drive.order(0, 2, kind, 0, kind == 3 ? 0 : 2);
                drive.work(0, steps);
                Check.same("final value of kind " + kind, new int[] {2, 42, 50, 40}[kind], drive.finalValue(0));
                Check.same("final value of another block", 50, drive.finalValue(2));
            }
        }
    }
}
