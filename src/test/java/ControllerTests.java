/** Promises 4 to 10: wake, sleep, setDelay, setAlarm, work, pass and lose. */
final class ControllerTests {
    private ControllerTests() {
    }

    static void promise04WakeCountsWhatHasArrived() {
        WokenDrive drive = new WokenDrive();
        drive.sleep(0);
        Check.same("wake of an empty mailbox", 0, drive.wake(0));
        drive.sleep(0);
        drive.order(0, 0, 0, 0, 1);
        drive.order(0, 1, 0, 1, 1);
        drive.order(0, 2, 0, 2, 1);
        drive.setDelay(0, 1);
        drive.order(0, 3, 0, 3, 1);
        drive.cancel(0, 1);
        drive.work(1, 3);
        Check.same("wake", 3, drive.wake(0));
        Check.same("awake", 1, drive.controller(0, 0));
        Check.same("in the mailbox still", 4, drive.controller(0, 3));
    }

    static void promise04WakeRefusals() {
        WokenDrive drive = new WokenDrive();
        Check.badState(drive, "wake of one awake", () -> drive.wake(0));
        Check.badState(drive, "wake of one awake", () -> drive.wake(1));
        Check.badIndex(drive, "wake(-1)", () -> drive.wake(-1));
        Check.badIndex(drive, "wake(2)", () -> drive.wake(2));
    }

    static void promise05SleepCountsWhatHasArrived() {
        WokenDrive drive = new WokenDrive();
        drive.order(0, 0, 0, 0, 1);
        drive.order(0, 1, 0, 1, 1);
        drive.setDelay(1, 1);
        drive.order(0, 2, 0, 2, 1);
        drive.cancel(0, 0);
        Check.same("sleep of 0", 3, drive.sleep(0));
        Check.same("sleep of 1", 2, drive.sleep(1));
        Check.same("awake 0", 0, drive.controller(0, 0));
        Check.same("awake 1", 0, drive.controller(1, 0));
        Check.same("times asleep with an order begun", 0, drive.controller(0, 8));
        Check.same("done by sleepers", 0, drive.pass(5));
    }

    static void promise05SleepRefusals() {
        WokenDrive drive = new WokenDrive();
        drive.sleep(1);
        Check.badState(drive, "sleep of a sleeper", () -> drive.sleep(1));
        Check.badIndex(drive, "sleep(-1)", () -> drive.sleep(-1));
        Check.badIndex(drive, "sleep(2)", () -> drive.sleep(2));
    }

    static void promise06DelayHoldsForOrdersToldFromThenOn() {
        WokenDrive drive = new WokenDrive();
        drive.order(0, 0, 0, 0, 1);
        Check.same("previous delay", 0, drive.setDelay(0, 20));
        drive.order(0, 1, 0, 1, 1);
        Check.same("previous delay", 20, drive.setDelay(0, 5));
        Check.same("previous delay of the other one", 0, drive.setDelay(1, 2));
        Check.same("delay", 5, drive.controller(0, 1));
        Check.same("arrived", 1, drive.controller(0, 4));
        drive.sleep(0);
        drive.sleep(1);
        drive.pass(19);
        Check.same("arrived at tick 19", 1, drive.controller(0, 4));
        drive.pass(1);
        Check.same("arrived at tick 20", 2, drive.controller(0, 4));
    }

    static void promise06DelayRefusals() {
        WokenDrive drive = new WokenDrive();
        Check.badIndex(drive, "controller -1", () -> drive.setDelay(-1, 21));
        Check.badIndex(drive, "controller 2", () -> drive.setDelay(2, 0));
        Check.badArgument(drive, "delay -1", () -> drive.setDelay(0, -1));
        Check.badArgument(drive, "delay 21", () -> drive.setDelay(1, 21));
    }

    static void promise07AlarmWakesInTheTicksThatItDivides() {
        WokenDrive drive = new WokenDrive();
        drive.pass(1);
        drive.sleep(0);
        Check.same("previous alarm", 0, drive.setAlarm(0, 3));
        drive.pass(2);
        Check.same("awake after the ticks 1 and 2", 0, drive.controller(0, 0));
        drive.pass(1);
        Check.same("awake after tick 3", 1, drive.controller(0, 0));
        drive.sleep(0);
        Check.same("previous alarm", 3, drive.setAlarm(0, 0));
        drive.pass(50);
        Check.same("awake without an alarm", 0, drive.controller(0, 0));
        Check.same("alarm", 0, drive.controller(0, 2));
        Check.same("previous alarm of the other one", 0, drive.setAlarm(1, 20));
    }

    static void promise07EveryAlarmDividesZero() {
        WokenDrive drive = new WokenDrive();
        drive.sleep(0);
        drive.sleep(1);
        drive.setAlarm(1, 20);
        drive.pass(1);
        Check.same("awake 0", 0, drive.controller(0, 0));
        Check.same("awake 1", 1, drive.controller(1, 0));
    }

    static void promise07AlarmWakesBeforeTheWorkOfItsTick() {
        WokenDrive drive = new WokenDrive();
        drive.order(0, 0, 0, 0, 1);
        drive.sleep(0);
        drive.sleep(1);
        drive.setAlarm(1, 2);
        Check.same("done in tick 0", 1, drive.pass(1));
        Check.same("doer", 1, drive.orderOf(0, 6));
    }

    static void promise07AlarmRefusals() {
        WokenDrive drive = new WokenDrive();
        Check.badIndex(drive, "controller -1", () -> drive.setAlarm(-1, 21));
        Check.badIndex(drive, "controller 2", () -> drive.setAlarm(2, 0));
        Check.badArgument(drive, "alarm -1", () -> drive.setAlarm(0, -1));
        Check.badArgument(drive, "alarm 21", () -> drive.setAlarm(1, 21));
    }

    static void promise08WorkDoesTheFirstOrderThatCanBeDone() {
        WokenDrive drive = new WokenDrive();
        Check.same("work without mail", 0, drive.work(0, 3));
        drive.order(0, 0, 1, 3, 10);
        drive.order(0, 1, 1, 3, 20);
        Check.same("work", 2, drive.work(0, 3));
        Check.orderFacts(drive, 0, 0, 0, 1, 3, 10, 2, 0, 0, 0, 0);
        Check.mailbox(drive, 0, 1);
        Check.mailbox(drive, 1, 0, 1);
        Check.same("marker", 0, drive.whole(6));
        Check.same("value of the marker", 0, drive.whole(7));
        Check.same("work of the other one", 2, drive.work(1, 3));
        Check.blocks(drive, 0, 0, 0, 30);
        Check.same("marker", 1, drive.whole(6));
        Check.same("value of the marker", 10, drive.whole(7));
        Check.same("quarrels of 1", 1, drive.controller(1, 7));
        Check.mailbox(drive, 1);
        Check.same("work that lets an order leave", 0, drive.work(0, 3));
        Check.mailbox(drive, 0);
        Check.controllerFacts(drive, 0, 1, 0, 0, 0, 0, 1, 0, 1, 0);
        Check.controllerFacts(drive, 1, 1, 0, 0, 0, 0, 1, 0, 1, 0);
    }

    static void promise08OneStepBeginsAndNothingElse() {
        WokenDrive drive = new WokenDrive();
        drive.order(0, 0, 0, 3, 10);
        drive.work(0, 3);
        drive.order(0, 1, 1, 3, 5);
        Check.same("work of one step", 3, drive.work(0, 1));
        Check.same("state", 1, drive.orderOf(1, 5));
        Check.same("doer", -1, drive.orderOf(1, 6));
        Check.same("tick done", -1, drive.orderOf(1, 8));
        Check.blocks(drive, 0, 0, 0, 10);
        Check.same("marker", 1, drive.whole(6));
        Check.same("value of the marker", 10, drive.whole(7));
        Check.controllerFacts(drive, 0, 0, 0, 0, 1, 1, 1, 0, 0, 1);
        Check.badState(drive, "work of a sleeper", () -> drive.work(0, 3));
    }

    static void promise08TwoStepsChangeTheBlock() {
        WokenDrive drive = new WokenDrive();
        drive.order(0, 0, 1, 3, 10);
        Check.same("work of two steps", 3, drive.work(1, 2));
        Check.blocks(drive, 0, 0, 0, 10);
        Check.same("state", 1, drive.orderOf(0, 5));
        Check.same("value of the marker", 0, drive.whole(7));
        Check.same("finished", 1, drive.work(0, 1));
        Check.blocks(drive, 0, 0, 0, 10);
        Check.orderFacts(drive, 0, 0, 0, 1, 3, 10, 2, 0, 0, 0, 1);
        Check.controllerFacts(drive, 0, 1, 0, 0, 1, 1, 1, 1, 0, 0);
        Check.controllerFacts(drive, 1, 0, 0, 0, 1, 1, 0, 0, 0, 1);
    }

    static void promise08TornOrderIsFinishedBeforeAnything() {
        WokenDrive drive = new WokenDrive();
        drive.order(0, 0, 0, 5, 8);
        drive.order(0, 1, 0, 6, 9);
        drive.work(0, 1);
        drive.lose(1);
        Check.same("finished without mail", 1, drive.work(1, 1));
        Check.same("awake", 1, drive.controller(1, 0));
        Check.blocks(drive, 0, 0, 0, 0, 0, 8, 0);
        Check.mailbox(drive, 0, 0, 1);
        Check.same("doer", 1, drive.orderOf(0, 6));
        drive.wake(0);
        Check.same("work", 2, drive.work(0, 3));
        Check.same("quarrels of 0", 1, drive.controller(0, 7));
        Check.mailbox(drive, 0);
    }

    static void promise08OwnTornOrderStaysUntilTheMailIsGoneThrough() {
        WokenDrive drive = new WokenDrive();
        drive.order(0, 0, 1, 5, 8);
        drive.work(0, 2);
        drive.wake(0);
        Check.same("finished", 1, drive.work(0, 2));
        Check.blocks(drive, 0, 0, 0, 0, 0, 8);
        Check.mailbox(drive, 0, 0);
        Check.same("work", 0, drive.work(0, 2));
        Check.mailbox(drive, 0);
        Check.same("quarrels of 0", 0, drive.controller(0, 7));
        Check.controllerFacts(drive, 0, 1, 0, 0, 0, 0, 1, 1, 0, 1);
    }

    static void promise08TornFenceAndCopy() {
        WokenDrive drive = new WokenDrive();
        drive.order(0, 0, 0, 0, 4);
        drive.work(0, 3);
        drive.order(0, 1, 3, 0, 0);
        drive.order(0, 2, 2, 1, 0);
        drive.work(0, 2);
        Check.same("value of the marker of a fence", 4, drive.whole(7));
        Check.same("finished fence", 1, drive.work(1, 3));
        drive.work(1, 1);
        Check.blocks(drive, 4, 0);
        Check.same("value of the marker of a copy", 0, drive.whole(7));
        drive.wake(0);
        Check.same("finished copy", 1, drive.work(0, 3));
        Check.blocks(drive, 4, 4);
    }

    static void promise08OrdersBehindTheOneTakenAreNotLookedAt() {
        WokenDrive drive = new WokenDrive();
        drive.order(0, 0, 0, 0, 1);
        drive.order(0, 1, 0, 1, 1);
        drive.order(0, 2, 0, 2, 1);
        drive.cancel(0, 0);
        drive.cancel(0, 2);
        Check.same("work", 2, drive.work(0, 3));
        Check.mailbox(drive, 0, 2);
        Check.same("work", 0, drive.work(0, 3));
        Check.mailbox(drive, 0);
        Check.same("quarrels about cancelled orders", 0, drive.whole(8));
    }

    static void promise08OrdersThatHaveNotArrivedStay() {
        WokenDrive drive = new WokenDrive();
        drive.setDelay(1, 2);
        drive.order(0, 0, 0, 0, 1);
        drive.order(0, 1, 0, 1, 1);
        drive.cancel(0, 1);
        drive.work(0, 3);
        Check.same("work", 0, drive.work(1, 3));
        Check.mailbox(drive, 1, 0, 1);
        Check.same("quarrels", 0, drive.controller(1, 7));
        drive.sleep(0);
        drive.pass(2);
        Check.same("work", 0, drive.work(1, 3));
        Check.mailbox(drive, 1);
        Check.same("quarrels", 1, drive.controller(1, 7));
    }

    static void promise08WaitsForEarlierOrdersInNoMailbox() {
        WokenDrive drive = new WokenDrive();
        drive.order(0, 0, 0, 2, 1);
        drive.lose(0);
        drive.lose(1);
        drive.order(0, 1, 2, 3, 2);
        drive.order(0, 2, 1, 2, 1);
        drive.order(0, 3, 0, 4, 1);
        Check.same("work", 2, drive.work(0, 3));
        Check.same("state of the one that waits for none", 2, drive.orderOf(3, 5));
        Check.same("work", 0, drive.work(0, 3));
    }

    static void promise08WorkRefusals() {
        WokenDrive drive = new WokenDrive();
        drive.sleep(1);
        Check.badIndex(drive, "controller -1", () -> drive.work(-1, 0));
        Check.badIndex(drive, "controller 2", () -> drive.work(2, 3));
        Check.badArgument(drive, "no steps", () -> drive.work(0, 0));
        Check.badArgument(drive, "four steps", () -> drive.work(0, 4));
        Check.badArgument(drive, "four steps of a sleeper", () -> drive.work(1, 4));
        Check.badState(drive, "work of a sleeper", () -> drive.work(1, 3));
    }

    static void promise09ControllersTakeTurnsAtBeingFirst() {
        WokenDrive drive = new WokenDrive();
        for (int order = 0; order < 8; order++) {
            drive.order(0, order, 0, order, order);
        }
        Check.same("done in one tick", 2, drive.pass(1));
        Check.same("done in three ticks", 6, drive.pass(3));
        long[] doers = {0, 1, 1, 0, 0, 1, 1, 0};
        for (int order = 0; order < 8; order++) {
            Check.same("doer of order " + order, doers[order], drive.orderOf(order, 6));
            Check.same("tick of order " + order, order / 2, drive.orderOf(order, 8));
        }
        Check.same("tick", 4, drive.whole(5));
        Check.same("done with none left", 0, drive.pass(50));
        Check.same("tick", 54, drive.whole(5));
    }

    static void promise09OnlyTheAwakeWorkAndTornOrdersCount() {
        WokenDrive drive = new WokenDrive();
        drive.order(0, 0, 1, 0, 1);
        drive.order(0, 1, 1, 1, 1);
        drive.order(0, 2, 1, 2, 1);
        drive.work(1, 2);
        Check.same("done with one finished", 2, drive.pass(2));
        Check.same("doer", 0, drive.orderOf(0, 6));
        Check.same("finished", 1, drive.orderOf(0, 9));
        Check.blocks(drive, 1, 1, 0);
    }

    static void promise09LastTick() {
        WokenDrive drive = new WokenDrive();
        for (int call = 0; call < 199; call++) {
            drive.pass(50);
        }
        Check.badState(drive, "pass(50) from tick 9950", () -> drive.pass(50));
        drive.pass(49);
        Check.same("tick", 9999, drive.whole(5));
        Check.badState(drive, "pass(1) from tick 9999", () -> drive.pass(1));
        Check.badArgument(drive, "pass(0) from tick 9999", () -> drive.pass(0));
        drive.order(0, 0, 0, 0, 1);
        Check.same("foreseen beyond the last tick", 1, drive.doneIn());
    }

    static void promise09PassRefusals() {
        WokenDrive drive = new WokenDrive();
        Check.badArgument(drive, "pass(0)", () -> drive.pass(0));
        Check.badArgument(drive, "pass(-1)", () -> drive.pass(-1));
        Check.badArgument(drive, "pass(51)", () -> drive.pass(51));
        Check.badArgument(drive, "greatest", () -> drive.pass(Integer.MAX_VALUE));
        Check.badArgument(drive, "least", () -> drive.pass(Integer.MIN_VALUE));
    }

    static void promise10LoseTakesTheMailboxAway() {
        WokenDrive drive = new WokenDrive();
        Check.same("lost from an empty mailbox", 0, drive.lose(0));
        drive.setDelay(0, 5);
        drive.order(0, 0, 0, 0, 1);
        drive.order(0, 1, 0, 1, 1);
        drive.order(0, 2, 0, 2, 1);
        drive.cancel(0, 1);
        Check.same("lost", 3, drive.lose(0));
        Check.mailbox(drive, 0);
        Check.mailbox(drive, 1, 0, 1, 2);
        drive.order(0, 3, 0, 3, 1);
        Check.mailbox(drive, 0, 3);
        drive.sleep(1);
        drive.pass(9);
        Check.wholeFacts(drive, 4, 2, 0, 1, 1);
    }

    static void promise10LoseRefusals() {
        WokenDrive drive = new WokenDrive();
        Check.badIndex(drive, "lose(-1)", () -> drive.lose(-1));
        Check.badIndex(drive, "lose(2)", () -> drive.lose(2));
    }
}
