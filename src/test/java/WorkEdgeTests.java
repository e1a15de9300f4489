/**
 * Boundary cases of the three steps of an order and of a controller's work, promise 8. The remark at each test tells
 * the sentence of the document that it holds.
 */
final class WorkEdgeTests {
    private WorkEdgeTests() {
    }

    private static void marker(WokenDrive drive, int order, int value) {
        Check.same("order of the marker", order, drive.whole(6));
        Check.same("value of the marker", value, drive.whole(7));
    }

    // ---- the marker and the steps

    /**
     * "The drive has a marker: the order that was begun last, and the value that its block had before (NONE and 0 at
     * first)."
     */
    static void promiseTermsMarkerFromTheFirstOrderToTheLast() {
        WokenDrive drive = new WokenDrive();
        marker(drive, -1, 0);
        for (int order = 0; order < 40; order++) {
            drive.order(order / 32, order % 32, 1, 15, 2);
        }
        marker(drive, -1, 0);
        drive.work(0, 3);
        marker(drive, 0, 0);
        drive.pass(19);
        marker(drive, 38, 76);
        drive.work(0, 1);
        marker(drive, 39, 78);
    }

    /** "The drive has a marker: the order that was begun last": not the one with the greatest number. */
    static void promiseTermsMarkerIsTheOrderBegunLast() {
        WokenDrive drive = new WokenDrive();
        drive.setDelay(0, 1);
        drive.order(0, 0, 0, 3, 5);
        drive.setDelay(0, 0);
        drive.order(0, 1, 0, 4, 6);
        drive.work(0, 3);
        marker(drive, 1, 0);
        drive.work(1, 3);
        marker(drive, 0, 0);
    }

    /** "1 the marker becomes this order, and the value of its block (of block 0 for a fence); the order is begun" */
    static void promiseTermsFirstStepOfAFence() {
        WokenDrive drive = new WokenDrive();
        drive.order(0, 0, 0, 0, -999);
        drive.order(0, 1, 3, 0, 0);
        drive.work(0, 3);
        Check.same("work", 3, drive.work(0, 1));
        marker(drive, 1, -999);
        Check.same("state", 1, drive.orderOf(1, 5));
    }

    /** "1 the marker becomes this order, and the value of its block": of a copy its own block, not the one it reads. */
    static void promiseTermsFirstStepOfACopy() {
        WokenDrive drive = new WokenDrive();
        drive.order(0, 0, 0, 14, 9);
        drive.order(0, 1, 0, 15, 7);
        drive.pass(1);
        drive.order(0, 2, 2, 15, 14);
        drive.work(1, 1);
        marker(drive, 2, 7);
        Check.same("block", 7, drive.block(15));
    }

    /** "2 its block becomes its result, reckoned from the value of the marker for an add": it is not added twice. */
    static void promiseTermsAddIsReckonedFromTheMarker() {
        for (int steps = 1; steps <= 3; steps++) {
            WokenDrive drive = Drives.torn(steps);
            Check.same("block after " + steps, steps == 1 ? 100 : 107, drive.block(1));
            marker(drive, 1, 100);
            drive.pass(1);
            Check.same("block", 107, drive.block(1));
            Check.same("state", 2, drive.orderOf(1, 5));
        }
    }

    /** "2 its block becomes its result": a torn write and a torn copy end with the same value. */
    static void promiseTermsTornWriteAndCopy() {
        for (int steps = 1; steps <= 2; steps++) {
            WokenDrive drive = new WokenDrive();
            drive.order(0, 0, 0, 2, 50);
            drive.work(0, steps);
            Check.same("written block", steps == 1 ? 0 : 50, drive.block(2));
            drive.work(1, 1);
            Check.same("written block", 50, drive.block(2));
            drive.order(0, 1, 2, 3, 2);
            drive.work(1, steps);
            Check.same("copied block", steps == 1 ? 0 : 50, drive.block(3));
            drive.wake(0);
            drive.work(0, 1);
            Check.same("copied block", 50, drive.block(3));
        }
    }

    /** "3 the order is done, by this controller": the third step alone makes it done. */
    static void promiseTermsDoneByTheThirdStepAlone() {
        for (int steps = 1; steps <= 3; steps++) {
            WokenDrive drive = new WokenDrive();
            drive.order(0, 0, 0, 0, 1);
            drive.work(1, steps);
            Check.same("state", steps == 3 ? 2 : 1, drive.orderOf(0, 5));
            Check.same("doer", steps == 3 ? 1 : -1, drive.orderOf(0, 6));
            Check.same("tick done", steps == 3 ? 0 : -1, drive.orderOf(0, 8));
            Check.same("done by 1", steps == 3 ? 1 : 0, drive.controller(1, 5));
        }
    }

    /** "An order is done in three steps": each number of steps makes all those before it, too. */
    static void promiseTermsEachStepAddsToThoseBefore() {
        for (int steps = 1; steps <= 3; steps++) {
            WokenDrive drive = new WokenDrive();
            drive.order(0, 0, 0, 7, 100);
            drive.pass(5);
            drive.order(0, 1, 1, 7, 11);
            drive.work(1, steps);
            marker(drive, 1, 100);
            Check.same("block after " + steps, steps < 2 ? 100 : 111, drive.block(7));
            Check.orderFacts(drive, 1, 0, 1, 1, 7, 11, steps < 3 ? 1 : 2, steps < 3 ? -1 : 1, 5, steps < 3 ? -1 : 5, 0);
        }
    }

    // ---- (1), the order of the marker

    /** "If the order of the marker is begun, it finishes that order": one that is done is no such order. */
    static void promiseTermsMarkerThatIsDoneIsNotFinishedAgain() {
        WokenDrive drive = Drives.torn(1);
        Check.same("finished", 1, drive.work(1, 3));
        Check.same("nothing more", 0, drive.work(1, 3));
        Check.same("done by 1", 1, drive.controller(1, 6));
        Check.same("block", 107, drive.block(1));
    }

    /** "(whether it is in its mailbox and has arrived, or not)": it is not in it. */
    static void promiseTermsFinishesWhatIsNotInItsMailbox() {
        WokenDrive drive = Drives.torn(1);
        drive.lose(0);
        drive.lose(1);
        Check.same("finished", 1, drive.work(1, 3));
        Check.orderFacts(drive, 1, 0, 0, 1, 1, 7, 2, 1, 1, 1, 1);
        Check.mailbox(drive, 1);
    }

    /** "(whether it is in its mailbox and has arrived, or not)": it has not arrived. */
    static void promiseTermsFinishesWhatHasNotArrived() {
        WokenDrive drive = new WokenDrive();
        drive.setDelay(1, 20);
        drive.order(0, 0, 0, 0, 1);
        drive.work(0, 1);
        Check.same("finished", 1, drive.work(1, 3));
        Check.same("state", 2, drive.orderOf(0, 5));
        Check.mailbox(drive, 1, 0);
    }

    /** "steps 2 and 3 are made": with one step, too, and the controller stays awake. */
    static void promiseTermsFinishesWithAnyNumberOfSteps() {
        for (int steps = 1; steps <= 3; steps++) {
            WokenDrive drive = Drives.torn(1);
            Check.same("finished", 1, drive.work(1, steps));
            Check.same("block", 107, drive.block(1));
            Check.same("state", 2, drive.orderOf(1, 5));
            Check.same("awake", 1, drive.controller(1, 0));
            Check.same("times fallen asleep", 0, drive.controller(1, 8));
        }
    }

    /** "That is all.": the mailbox is not gone through, and no other order is taken. */
    static void promiseTermsFinishingIsAll() {
        WokenDrive drive = new WokenDrive();
        drive.order(0, 0, 0, 0, 1);
        drive.order(0, 1, 0, 1, 1);
        drive.order(0, 2, 0, 2, 1);
        drive.order(0, 3, 0, 3, 1);
        drive.cancel(0, 1);
        drive.work(0, 3);
        drive.work(0, 2);
        Check.same("finished", 1, drive.work(1, 3));
        Check.mailbox(drive, 1, 0, 1, 2, 3);
        Check.same("quarrels", 0, drive.whole(8));
        Check.wholeFacts(drive, 4, 1, 0, 2, 1);
    }

    /**
     * "An order that another controller finishes stays in the mailbox of the one that began it, until that one goes
     * through it."
     */
    static void promiseTermsFinishedOrderStaysWithTheOneThatBeganIt() {
        WokenDrive drive = Drives.torn(1);
        drive.work(1, 3);
        Check.same("size", 1, drive.controller(0, 3));
        Check.same("order", 1, drive.mail(0, 0));
        drive.wake(0);
        Check.same("quarrels before", 0, drive.controller(0, 7));
        Check.same("work", 0, drive.work(0, 3));
        Check.mailbox(drive, 0);
        Check.same("quarrels", 1, drive.controller(0, 7));
    }

    /** "it is done by this controller": one that finishes what it began itself has no quarrel about it. */
    static void promiseTermsOwnTornOrderIsNoQuarrel() {
        WokenDrive drive = Drives.torn(2);
        drive.wake(0);
        Check.same("finished", 1, drive.work(0, 1));
        Check.same("doer", 0, drive.orderOf(1, 6));
        Check.same("in the mailbox still", 1, drive.mail(0, 0));
        Check.same("work", 0, drive.work(0, 3));
        Check.mailbox(drive, 0);
        Check.same("quarrels", 0, drive.controller(0, 7));
    }

    // ---- (2), the mailbox

    /**
     * "(2) Otherwise, it goes through its mailbox from the first order on.": with no marker, and with one that is done.
     */
    static void promiseTermsGoesThroughItsMailboxFromTheFirstOrderOn() {
        WokenDrive drive = new WokenDrive();
        for (int order = 0; order < 4; order++) {
            drive.order(0, order, 0, order, 1);
        }
        drive.cancel(0, 0);
        Check.same("work without a marker", 2, drive.work(0, 3));
        Check.mailbox(drive, 0, 2, 3);
        Check.same("work with a marker that is done", 2, drive.work(0, 3));
        Check.mailbox(drive, 0, 3);
        Check.same("work of the other one", 2, drive.work(1, 3));
        Check.mailbox(drive, 1);
        Check.same("quarrels", 2, drive.controller(1, 7));
        marker(drive, 3, 0);
    }

    /** "If there is one, it makes so many of its steps as are asked for, from the first one on": if not, none. */
    static void promiseTermsNoStepIfThereIsNone() {
        for (int steps = 1; steps <= 3; steps++) {
            WokenDrive drive = Drives.torn(3);
            drive.setDelay(0, 1);
            drive.order(0, 1, 0, 1, 5);
            Check.same("work of " + steps, 0, drive.work(0, steps));
            marker(drive, 1, 100);
            Check.same("state", 0, drive.orderOf(2, 5));
            Check.same("block", 107, drive.block(1));
            Check.same("awake", 1, drive.controller(0, 0));
        }
    }

    /** "An order that is done or cancelled and has arrived leaves the mailbox": one that has not arrived stays. */
    static void promiseTermsOrdersThatAreOverLeaveOnceTheyHaveArrived() {
        WokenDrive drive = new WokenDrive();
        drive.setDelay(1, 2);
        drive.order(0, 0, 0, 0, 1);
        drive.order(0, 1, 0, 1, 1);
        drive.work(0, 3);
        drive.cancel(0, 1);
        drive.sleep(0);
        drive.pass(1);
        Check.same("work in tick 1", 0, drive.work(1, 3));
        Check.mailbox(drive, 1, 0, 1);
        drive.sleep(1);
        drive.pass(1);
        drive.wake(1);
        Check.mailbox(drive, 1, 0, 1);
        Check.same("work in tick 2", 0, drive.work(1, 3));
        Check.mailbox(drive, 1);
    }

    /** "if it is done, and by the other controller, that is a quarrel": only once it leaves. */
    static void promiseTermsQuarrelOnceTheOrderLeaves() {
        WokenDrive drive = new WokenDrive();
        drive.setDelay(1, 1);
        drive.order(0, 0, 0, 0, 1);
        drive.work(0, 3);
        drive.work(1, 3);
        Check.same("quarrels before it has arrived", 0, drive.whole(8));
        drive.pass(1);
        Check.same("quarrels in tick 0", 0, drive.whole(8));
        drive.pass(1);
        Check.same("quarrels in tick 1", 1, drive.controller(1, 7));
        drive.pass(9);
        Check.same("quarrels of both", 1, drive.whole(8));
    }

    /** "if it is done, and by the other controller": a cancelled one is no quarrel. */
    static void promiseTermsCancelledOrderIsNoQuarrel() {
        WokenDrive drive = new WokenDrive();
        drive.order(0, 0, 0, 0, 1);
        drive.cancel(0, 0);
        drive.work(0, 3);
        drive.work(1, 3);
        Check.mailbox(drive, 0);
        Check.mailbox(drive, 1);
        Check.same("quarrels", 0, drive.whole(8));
    }

    /** "that is a quarrel": up to forty of them. */
    static void promiseTermsFortyQuarrels() {
        WokenDrive drive = Drives.full();
        drive.sleep(1);
        drive.pass(40);
        drive.sleep(0);
        drive.wake(1);
        Check.same("work", 0, drive.work(1, 3));
        Check.same("quarrels of 1", 40, drive.controller(1, 7));
        Check.same("quarrels of 0", 0, drive.controller(0, 7));
        Check.same("quarrels of both", 40, drive.whole(8));
    }

    /** "the first one that has arrived and waits for no order is taken": those before it stay. */
    static void promiseTermsFirstThatHasArrivedAndWaitsForNoneIsTaken() {
        WokenDrive drive = new WokenDrive();
        drive.setDelay(0, 1);
        drive.order(0, 0, 0, 5, 1);
        drive.setDelay(0, 0);
        drive.order(0, 1, 1, 5, 1);
        drive.order(0, 2, 0, 6, 1);
        drive.order(0, 3, 0, 7, 1);
        Check.same("work", 2, drive.work(0, 3));
        Check.same("state of the one taken", 2, drive.orderOf(2, 5));
        Check.mailbox(drive, 0, 0, 1, 3);
    }

    /** "waits for no order": it waits also for one that is in no mailbox. */
    static void promiseTermsWaitsForOrdersInNoMailbox() {
        WokenDrive drive = new WokenDrive();
        drive.order(0, 0, 3, 0, 0);
        drive.lose(0);
        drive.lose(1);
        drive.order(0, 1, 0, 6, 1);
        Check.same("work", 0, drive.work(0, 3));
        Check.same("done in ticks", 0, drive.pass(50));
        drive.cancel(0, 0);
        Check.same("done after the cancel", 1, drive.pass(1));
    }

    /** "orders behind it are not looked at" */
    static void promiseTermsOrdersBehindTheOneTakenStay() {
        for (int steps = 1; steps <= 3; steps++) {
            WokenDrive drive = new WokenDrive();
            drive.order(0, 0, 0, 0, 1);
            drive.order(0, 1, 0, 1, 1);
            drive.order(0, 2, 0, 2, 1);
            drive.order(0, 3, 0, 3, 1);
            drive.cancel(0, 0);
            drive.cancel(0, 2);
            drive.work(0, steps);
            if (steps == 3) {
                Check.mailbox(drive, 0, 2, 3);
            } else {
                Check.mailbox(drive, 0, 1, 2, 3);
            }
        }
    }

    /** "An order that is done or cancelled and has arrived leaves the mailbox": behind one that waits, too. */
    static void promiseTermsOrdersThatAreOverLeaveFromTheWholeMailboxIfNoneIsTaken() {
        WokenDrive drive = new WokenDrive();
        drive.order(0, 0, 3, 0, 0);
        drive.lose(0);
        drive.order(0, 1, 0, 1, 1);
        drive.order(0, 2, 0, 2, 1);
        drive.order(0, 3, 0, 3, 1);
        drive.cancel(0, 2);
        Check.same("work", 0, drive.work(0, 3));
        Check.mailbox(drive, 0, 1, 3);
    }

    /**
     * "if all three are made, it leaves the mailbox; if fewer are, the controller is asleep then (the order stays in
     * its mailbox)"
     */
    static void promiseTermsOneTwoAndThreeSteps() {
        for (int steps = 1; steps <= 3; steps++) {
            WokenDrive drive = new WokenDrive();
            drive.order(0, 0, 0, 0, 5);
            Check.same("work of " + steps, steps == 3 ? 2 : 3, drive.work(1, steps));
            Check.same("awake", steps == 3 ? 1 : 0, drive.controller(1, 0));
            Check.same("block", steps == 1 ? 0 : 5, drive.block(0));
            Check.same("size of its mailbox", steps == 3 ? 0 : 1, drive.controller(1, 3));
            Check.mailbox(drive, 0, 0);
            Check.same("times fallen asleep", steps == 3 ? 0 : 1, drive.controller(1, 8));
        }
    }

    // ---- promise 8

    /** "`controller`: 0 or 1"; "Throws `IndexOutOfBoundsException` if there is no such controller" */
    static void promise08ControllerRange() {
        Check.range("controller", 0, 1, Check.INDEX, Drives::full, (drive, one) -> {
            drive.work(one, 3);
            return drive.orderOf(0, 6);
        });
    }

    /**
     * "`steps`: 1 to 3: how many steps of an order it makes, if it takes one"; "Throws `IllegalArgumentException` if
     * steps is out of range"
     */
    static void promise08StepsRange() {
        Check.range("steps", 1, 3, Check.ARGUMENT, Drives::full, (drive, steps) -> {
            drive.work(1, steps);
            return drive.orderOf(0, 5) == 2 ? 3 : drive.block(0) == 1 ? 2 : 1;
        });
    }

    /** "if it takes one": with fewer steps and nothing to take it stays awake. */
    static void promise08FewStepsOfNothing() {
        for (int steps = 1; steps <= 3; steps++) {
            WokenDrive drive = new WokenDrive();
            drive.order(0, 0, 0, 0, 1);
            drive.cancel(0, 0);
            Check.same("work", 0, drive.work(0, steps));
            Check.same("awake", 1, drive.controller(0, 0));
            Check.same("times fallen asleep", 0, drive.controller(0, 8));
            marker(drive, -1, 0);
            Check.mailbox(drive, 0);
        }
    }

    /** "Returns 0 if it does nothing (but let orders leave its mailbox)": of an empty mailbox, and of a full one. */
    static void promise08NothingOfAnEmptyAndOfAFullMailbox() {
        Check.same("empty mailbox", 0, new WokenDrive().work(0, 3));
        WokenDrive drive = new WokenDrive();
        drive.setDelay(0, 20);
        Drives.tellForty(drive);
        Check.same("none has arrived", 0, drive.work(0, 3));
        Check.same("size", 40, drive.controller(0, 3));
        drive.sleep(0);
        drive.pass(40);
        drive.wake(0);
        Check.same("all are done", 0, drive.work(0, 3));
        Check.mailbox(drive, 0);
    }

    /** "1 if it finishes the order of the marker, 2 if it does an order, 3 if it begins one and falls asleep" */
    static void promise08AnswersOfAllKinds() {
        for (int kind = 0; kind < 4; kind++) {
            for (int steps = 1; steps <= 3; steps++) {
                WokenDrive drive = new WokenDrive();
                drive.order(0, 0, kind, 0, 0);
                Check.same("work on kind " + kind, steps == 3 ? 2 : 3, drive.work(0, steps));
                Check.same("work of the other one", steps == 3 ? 0 : 1, drive.work(1, steps));
                Check.same("block", 0, drive.block(0));
            }
        }
    }

    /** "Throws `IllegalStateException` if it is asleep": put to sleep, or fallen asleep, with an order begun or not. */
    static void promise08WorkOfASleeper() {
        for (int one = 0; one < 2; one++) {
            int sleeper = one;
            WokenDrive drive = Drives.full();
            drive.sleep(sleeper);
            for (int steps = 1; steps <= 3; steps++) {
                int of = steps;
                Check.badState(drive, "work of one put to sleep", () -> drive.work(sleeper, of));
            }
            drive.wake(sleeper);
            drive.work(sleeper, 1);
            Check.badState(drive, "work of one fallen asleep", () -> drive.work(sleeper, 3));
        }
    }

    /** "If several exceptions of a method apply, the one that is listed first is thrown.": of work. */
    static void promise08ControllerGoesBeforeStepsAndStepsBeforeSleep() {
        for (int steps : new int[] {Integer.MIN_VALUE, -1, 0, 4, Integer.MAX_VALUE}) {
            Check.outside("controller", 0, 1, Check.INDEX, Drives::asleep, (drive, one) -> drive.work(one, steps));
            WokenDrive drive = Drives.asleep();
            Check.badArgument(drive, "steps of a sleeper", () -> drive.work(0, steps));
            Check.badArgument(drive, "steps of a sleeper", () -> drive.work(1, steps));
        }
    }
}
