/**
 * Boundary cases of controllers and ticks, and of the promises 4 to 7, 9 and 10. The remark at each test tells the
 * sentence of the document that it holds.
 */
final class ControllerEdgeTests {
    private ControllerEdgeTests() {
    }

    /** "There are two controllers, 0 and 1." */
    static void promiseTermsTwoControllers() {
        Check.range("controller", 0, 1, Check.INDEX, WokenDrive::new, (drive, one) -> {
            drive.setDelay(one, 7);
            Check.same("delay of the other one", 0, drive.controller(1 - one, 1));
            Check.same("delay", 7, drive.controller(one, 1));
            return one;
        });
    }

    /**
     * "A controller is awake (at first) or asleep; it has a delay (0 to 20; 0 at first), an alarm (0 to 20; 0 at
     * first)"
     */
    static void promiseTermsControllersAtFirst() {
        WokenDrive drive = new WokenDrive();
        Check.controllerFacts(drive, 0, 1, 0, 0, 0, 0, 0, 0, 0, 0);
        Check.controllerFacts(drive, 1, 1, 0, 0, 0, 0, 0, 0, 0, 0);
        Check.mailbox(drive, 0);
        Check.mailbox(drive, 1);
    }

    /** "An order that is told comes to the end of both mailboxes": to sleepers, and behind 39 others, too. */
    static void promiseTermsOrdersComeToTheEndOfBothMailboxes() {
        WokenDrive drive = Drives.asleep();
        drive.setDelay(1, 20);
        for (int order = 0; order < 40; order++) {
            drive.order(order / 32, order % 32, 0, 0, 0);
            for (int one = 0; one < 2; one++) {
                Check.same("size", order + 1, drive.controller(one, 3));
                Check.same("first", 0, drive.mail(one, 0));
                Check.same("last", order, drive.mail(one, order));
                Check.same("behind it", -1, drive.mail(one, order + 1));
            }
        }
    }

    /** "a mailbox: the orders that came to it, in the order in which they were told": in whatever order they arrive. */
    static void promiseTermsMailboxInTheOrderOfTelling() {
        WokenDrive drive = Drives.asleep();
        for (int order = 0; order < 6; order++) {
            drive.setDelay(0, 5 - order);
            drive.order(3 - order / 2, 31 - order, 0, order, 1);
        }
        for (int tick = 0; tick < 6; tick++) {
            Check.same("arrived at tick " + tick, tick + 1, drive.controller(0, 4));
            Check.mailbox(drive, 0, 0, 1, 2, 3, 4, 5);
            Check.same("next at tick " + tick, 5 - tick, drive.nextFor(0));
            drive.pass(1);
        }
        drive.wake(1);
        drive.cancel(3, 31);
        drive.work(1, 3);
        drive.order(0, 0, 0, 0, 1);
        Check.mailbox(drive, 1, 2, 3, 4, 5, 6);
        Check.mailbox(drive, 0, 0, 1, 2, 3, 4, 5, 6);
    }

    /** "it has arrived at a controller from the tick at which it was told + the delay that this controller has then" */
    static void promiseTermsArrivalWithEachDelay() {
        for (int delay = 0; delay <= 20; delay++) {
            WokenDrive drive = Drives.asleep();
            drive.pass(3);
            drive.setDelay(0, delay);
            drive.setDelay(1, 20 - delay);
            drive.order(0, 0, 0, 0, 1);
            for (int passed = 0; passed <= 20; passed++) {
                Check.same("arrived at 0", passed >= delay ? 1 : 0, drive.controller(0, 4));
                Check.same("arrived at 1", passed >= 20 - delay ? 1 : 0, drive.controller(1, 4));
                drive.pass(1);
            }
        }
    }

    /** "the delay that this controller has then": a later one does not matter. */
    static void promiseTermsArrivalStaysWithTheDelayOfThen() {
        WokenDrive drive = Drives.asleep();
        drive.setDelay(0, 1);
        drive.order(0, 0, 0, 0, 1);
        drive.setDelay(0, 20);
        drive.order(0, 1, 0, 1, 1);
        drive.setDelay(0, 0);
        Check.same("arrived at tick 0", 0, drive.controller(0, 4));
        drive.pass(1);
        Check.same("arrived at tick 1", 1, drive.controller(0, 4));
        Check.same("next", 0, drive.nextFor(0));
        drive.pass(18);
        Check.same("arrived at tick 19", 1, drive.controller(0, 4));
        drive.pass(1);
        Check.same("arrived at tick 20", 2, drive.controller(0, 4));
    }

    // ---- a tick

    /** "each controller whose alarm is not 0, and divides the tick": with every alarm, in every tick to 45. */
    static void promiseTermsAlarmWakesInTheTicksThatItDivides() {
        for (int alarm = 0; alarm <= 20; alarm++) {
            WokenDrive drive = Drives.asleep();
            drive.setAlarm(1, alarm);
            for (int tick = 0; tick <= 45; tick++) {
                drive.pass(1);
                boolean rings = alarm != 0 && tick % alarm == 0;
                Check.same("awake with alarm " + alarm + " after tick " + tick, rings ? 1 : 0, drive.controller(1, 0));
                Check.same("awake without an alarm", 0, drive.controller(0, 0));
                if (rings) {
                    drive.sleep(1);
                }
            }
        }
    }

    /** "as it is before its increase" */
    static void promiseTermsAlarmLooksAtTheTickBeforeItsIncrease() {
        WokenDrive drive = Drives.asleep();
        drive.pass(19);
        drive.setAlarm(0, 20);
        drive.pass(1);
        Check.same("tick", 20, drive.whole(5));
        Check.same("awake after tick 19", 0, drive.controller(0, 0));
        drive.pass(1);
        Check.same("awake after tick 20", 1, drive.controller(0, 0));
    }

    /** "0 is divided by all": but not by an alarm of 0. */
    static void promiseTermsTickZeroIsDividedByAllAlarms() {
        for (int alarm = 0; alarm <= 20; alarm++) {
            WokenDrive drive = Drives.asleep();
            drive.setAlarm(0, alarm);
            drive.setAlarm(1, 20 - alarm);
            drive.pass(1);
            Check.same("awake 0", alarm == 0 ? 0 : 1, drive.controller(0, 0));
            Check.same("awake 1", alarm == 20 ? 0 : 1, drive.controller(1, 0));
        }
    }

    /**
     * "(1) each controller .. is awake; (2) the controllers that are awake work": in the tick of the alarm, and later.
     */
    static void promiseTermsAlarmWakesBeforeTheWorkOfItsTick() {
        WokenDrive drive = Drives.asleep();
        drive.pass(1);
        for (int order = 0; order < 3; order++) {
            drive.order(0, order, 0, order, 1);
        }
        drive.setAlarm(1, 2);
        Check.same("done in tick 1", 0, drive.pass(1));
        Check.same("done in tick 2", 1, drive.pass(1));
        Check.same("doer", 1, drive.orderOf(0, 6));
        Check.same("tick done", 2, drive.orderOf(0, 8));
        Check.same("done in tick 3", 1, drive.pass(1));
        drive.sleep(1);
        Check.same("done in tick 4", 1, drive.pass(1));
    }

    /** "in an even tick controller 0 first, in an odd one controller 1 first" */
    static void promiseTermsTurnsOfEvenAndOddTicks() {
        for (int tick = 0; tick < 4; tick++) {
            WokenDrive drive = Drives.atTick(tick);
            drive.order(0, 0, 0, 0, 1);
            drive.order(0, 1, 0, 1, 1);
            Check.same("done", 2, drive.pass(1));
            Check.same("doer of the first one in tick " + tick, tick % 2, drive.orderOf(0, 6));
            Check.same("doer of the second one in tick " + tick, 1 - tick % 2, drive.orderOf(1, 6));
        }
    }

    /**
     * "the controllers that are awake work, with three steps": a chain goes on within one tick, a sleeper does nothing.
     */
    static void promiseTermsBothWorkInOneTick() {
        WokenDrive drive = new WokenDrive();
        for (int order = 0; order < 4; order++) {
            drive.order(0, order, 1, 5, 1);
        }
        Check.same("done by both", 2, drive.pass(1));
        Check.same("awake", 2, drive.whole(9));
        drive.sleep(1);
        Check.same("done by one", 1, drive.pass(1));
        drive.sleep(0);
        Check.same("done by none", 0, drive.pass(1));
    }

    /** "Then the tick increases by 1." */
    static void promiseTermsTickIncreasesAfterTheWork() {
        WokenDrive drive = Drives.atTick(9998);
        drive.order(0, 0, 0, 0, 1);
        drive.pass(1);
        Check.same("tick done", 9998, drive.orderOf(0, 8));
        Check.same("tick", 9999, drive.whole(5));
    }

    // ---- promise 4

    /** "`controller`: 0 or 1"; "Throws `IndexOutOfBoundsException` if there is no such controller" */
    static void promise04ControllerRange() {
        Check.range("controller", 0, 1, Check.INDEX, Drives::asleep, (drive, one) -> {
            drive.wake(one);
            Check.same("awake", 1, drive.whole(9));
            return drive.controller(one, 0) == 1 ? one : -1;
        });
        Check.outside("controller with both awake", 0, 1, Check.INDEX, WokenDrive::new, WokenDrive::wake);
    }

    /** "Returns the number of orders in its mailbox that have arrived, open or not.": from none to 40. */
    static void promise04WakeCountsFromNoneToForty() {
        WokenDrive drive = Drives.asleep();
        Check.same("none", 0, drive.wake(0));
        drive.sleep(0);
        drive.setDelay(0, 1);
        Drives.tellForty(drive);
        Check.same("none that has arrived", 0, drive.wake(0));
        drive.sleep(0);
        Check.same("of the other one", 40, drive.wake(1));
        drive.cancel(0, 0);
        drive.work(1, 3);
        drive.sleep(1);
        drive.pass(1);
        Check.same("open or not", 40, drive.wake(0));
        Check.same("in the mailbox", 40, drive.controller(0, 3));
        drive.sleep(0);
        drive.lose(0);
        Check.same("none after the loss", 0, drive.wake(0));
    }

    /** "Throws `IllegalStateException` if it is awake" */
    static void promise04WakeOfOneAwake() {
        for (int one = 0; one < 2; one++) {
            int awake = one;
            WokenDrive drive = new WokenDrive();
            Check.badState(drive, "wake at first", () -> drive.wake(awake));
            drive.sleep(1 - awake);
            Check.badState(drive, "wake with the other one asleep", () -> drive.wake(awake));
            drive.sleep(awake);
            Check.same("wake", 0, drive.wake(awake));
            Check.badState(drive, "wake again", () -> drive.wake(awake));
        }
    }

    // ---- promise 5

    /** "`controller`: 0 or 1"; "Throws `IndexOutOfBoundsException` if there is no such controller" */
    static void promise05ControllerRange() {
        Check.range("controller", 0, 1, Check.INDEX, WokenDrive::new, (drive, one) -> {
            drive.sleep(one);
            Check.same("awake", 1, drive.whole(9));
            return drive.controller(one, 0) == 0 ? one : -1;
        });
        Check.outside("controller with both asleep", 0, 1, Check.INDEX, Drives::asleep, WokenDrive::sleep);
    }

    /** "Returns the number of orders in its mailbox that have arrived, open or not.": from none to 40. */
    static void promise05SleepCountsFromNoneToForty() {
        WokenDrive drive = new WokenDrive();
        Check.same("none", 0, drive.sleep(0));
        drive.setDelay(1, 20);
        Drives.tellForty(drive);
        Check.same("none that has arrived", 0, drive.sleep(1));
        drive.wake(0);
        drive.cancel(1, 7);
        Check.same("open or not", 40, drive.sleep(0));
        drive.wake(0);
        drive.work(0, 3);
        Check.same("without the one that is done", 39, drive.sleep(0));
        drive.pass(20);
        drive.wake(1);
        Check.same("all that have arrived", 40, drive.sleep(1));
    }

    /** "Throws `IllegalStateException` if it is asleep": put to sleep, or fallen asleep. */
    static void promise05SleepOfASleeper() {
        for (int one = 0; one < 2; one++) {
            int sleeper = one;
            WokenDrive drive = new WokenDrive();
            drive.sleep(sleeper);
            Check.badState(drive, "sleep of a sleeper", () -> drive.sleep(sleeper));
            drive.wake(sleeper);
            drive.order(0, 0, 0, 0, 1);
            drive.work(sleeper, 2);
            Check.badState(drive, "sleep of one fallen asleep", () -> drive.sleep(sleeper));
        }
    }

    // ---- promise 6

    /** "`controller`: 0 or 1"; "Throws `IndexOutOfBoundsException` if there is no such controller" */
    static void promise06ControllerRange() {
        Check.range("controller", 0, 1, Check.INDEX, WokenDrive::new, (drive, one) -> {
            drive.setDelay(one, 20);
            return drive.controller(one, 1) == 20 && drive.controller(1 - one, 1) == 0 ? one : -1;
        });
    }

    /** "`delay`: 0 to 20"; "Throws `IllegalArgumentException` if delay is out of range" */
    static void promise06DelayRange() {
        for (int one = 0; one < 2; one++) {
            int of = one;
            Check.range("delay", 0, 20, Check.ARGUMENT, WokenDrive::new, (drive, delay) -> {
                drive.setDelay(of, delay);
                return drive.controller(of, 1);
            });
        }
    }

    /** "Sets the delay of a controller, for orders that are told from now on." */
    static void promise06DelayLeavesEarlierOrdersAlone() {
        WokenDrive drive = new WokenDrive();
        drive.order(0, 0, 0, 0, 1);
        drive.setDelay(0, 20);
        Check.same("arrived", 1, drive.controller(0, 4));
        drive.order(0, 1, 0, 1, 1);
        Check.same("arrived", 1, drive.controller(0, 4));
        Check.same("arrived at the other one", 2, drive.controller(1, 4));
    }

    /** "Returns the previous delay.": 0 at first, and the greatest. */
    static void promise06PreviousDelay() {
        for (int one = 0; one < 2; one++) {
            WokenDrive drive = new WokenDrive();
            Check.same("at first", 0, drive.setDelay(one, 20));
            Check.same("of the other one at first", 0, drive.setDelay(1 - one, 1));
            Check.same("greatest", 20, drive.setDelay(one, 20));
            Check.same("greatest", 20, drive.setDelay(one, 0));
            Check.same("least", 0, drive.setDelay(one, 0));
            Check.same("of the other one", 1, drive.setDelay(1 - one, 0));
        }
    }

    /** "If several exceptions of a method apply, the one that is listed first is thrown.": of setDelay. */
    static void promise06WrongControllerGoesBeforeAWrongDelay() {
        for (int delay : new int[] {Integer.MIN_VALUE, -1, 21, Integer.MAX_VALUE}) {
            Check.outside("controller", 0, 1, Check.INDEX, WokenDrive::new, (drive, one) -> drive.setDelay(one, delay));
        }
    }

    // ---- promise 7

    /** "`controller`: 0 or 1"; "Throws `IndexOutOfBoundsException` if there is no such controller" */
    static void promise07ControllerRange() {
        Check.range("controller", 0, 1, Check.INDEX, WokenDrive::new, (drive, one) -> {
            drive.setAlarm(one, 20);
            return drive.controller(one, 2) == 20 && drive.controller(1 - one, 2) == 0 ? one : -1;
        });
    }

    /** "`alarm`: 0 to 20"; "Throws `IllegalArgumentException` if alarm is out of range" */
    static void promise07AlarmRange() {
        for (int one = 0; one < 2; one++) {
            int of = one;
            Check.range("alarm", 0, 20, Check.ARGUMENT, WokenDrive::new, (drive, alarm) -> {
                drive.setAlarm(of, alarm);
                return drive.controller(of, 2);
            });
        }
    }

    /** "Returns the previous alarm.": 0 at first, and the greatest. */
    static void promise07PreviousAlarm() {
        for (int one = 0; one < 2; one++) {
            WokenDrive drive = new WokenDrive();
            Check.same("at first", 0, drive.setAlarm(one, 20));
            Check.same("of the other one at first", 0, drive.setAlarm(1 - one, 1));
            Check.same("greatest", 20, drive.setAlarm(one, 20));
            Check.same("greatest", 20, drive.setAlarm(one, 0));
            Check.same("least", 0, drive.setAlarm(one, 0));
            Check.same("of the other one", 1, drive.setAlarm(1 - one, 0));
        }
    }

    /** "If several exceptions of a method apply, the one that is listed first is thrown.": of setAlarm. */
    static void promise07WrongControllerGoesBeforeAWrongAlarm() {
        for (int alarm : new int[] {Integer.MIN_VALUE, -1, 21, Integer.MAX_VALUE}) {
            Check.outside("controller", 0, 1, Check.INDEX, WokenDrive::new, (drive, one) -> drive.setAlarm(one, alarm));
        }
    }

    // ---- promise 9

    /** "`ticks`: 1 to 50"; "Throws `IllegalArgumentException` if ticks is out of range" */
    static void promise09TicksRange() {
        Check.range("ticks", 1, 50, Check.ARGUMENT, WokenDrive::new, (drive, ticks) -> {
            drive.pass(ticks);
            return drive.whole(5);
        });
    }

    /** "Returns the number of orders that are done in them.": from none to 40, those of (1), too. */
    static void promise09DoneFromNoneToForty() {
        Check.same("none", 0, new WokenDrive().pass(50));
        Check.same("all", 40, Drives.full().pass(50));
        Check.same("two in a tick", 38, Drives.full().pass(19));
        WokenDrive torn = Drives.torn(2);
        Check.same("one of (1)", 1, torn.pass(50));
        Check.same("done before the ticks", 0, torn.pass(50));
    }

    /** "Returns the number of orders that are done in them.": a cancelled one that leaves a mailbox is none. */
    static void promise09CancelledOrdersAreNotDone() {
        WokenDrive drive = new WokenDrive();
        drive.order(0, 0, 0, 0, 1);
        drive.cancel(0, 0);
        Check.same("done", 0, drive.pass(1));
        Check.mailbox(drive, 0);
        Check.mailbox(drive, 1);
    }

    /** "Throws `IllegalStateException` if the tick would be greater than 9999" */
    static void promise09LastTickIsReachedAndNotPassed() {
        for (int ticks = 1; ticks <= 50; ticks++) {
            int last = ticks;
            WokenDrive early = Drives.atTick(9999 - ticks);
            early.pass(ticks);
            Check.same("tick", 9999, early.whole(5));
            WokenDrive late = Drives.atTick(10000 - ticks);
            Check.badState(late, "pass of " + ticks, () -> late.pass(last));
            Check.same("tick", 10000 - ticks, late.whole(5));
        }
    }

    /** "If several exceptions of a method apply, the one that is listed first is thrown.": of pass. */
    static void promise09WrongTicksGoBeforeTheLastTick() {
        Check.outside("ticks", 1, 50, Check.ARGUMENT, () -> Drives.atTick(9999), WokenDrive::pass);
        WokenDrive drive = Drives.atTick(9950);
        Check.badArgument(drive, "51 ticks", () -> drive.pass(51));
        Check.badState(drive, "50 ticks", () -> drive.pass(50));
    }

    // ---- promise 10

    /** "`controller`: 0 or 1"; "Throws `IndexOutOfBoundsException` if there is no such controller" */
    static void promise10ControllerRange() {
        Check.range("controller", 0, 1, Check.INDEX, Drives::full, (drive, one) -> {
            drive.lose(one);
            return drive.controller(one, 3) == 0 && drive.controller(1 - one, 3) == 40 ? one : -1;
        });
    }

    /** "Returns the number of orders that were in it.": from none to 40, arrived or not, open or not. */
    static void promise10LostFromNoneToForty() {
        WokenDrive drive = new WokenDrive();
        Check.same("none", 0, drive.lose(1));
        drive.setDelay(1, 20);
        Drives.tellForty(drive);
        drive.cancel(0, 0);
        drive.work(0, 3);
        Check.same("all", 40, drive.lose(1));
        Check.same("none again", 0, drive.lose(1));
        Check.same("of the other one", 38, drive.lose(0));
    }

    /** "the orders in it come to it no more (those that are told later do)": also those that had not arrived. */
    static void promise10LostOrdersComeNoMore() {
        WokenDrive drive = new WokenDrive();
        drive.setDelay(0, 2);
        drive.order(0, 0, 0, 0, 1);
        drive.lose(0);
        drive.order(0, 1, 0, 1, 1);
        drive.sleep(1);
        drive.pass(2);
        Check.mailbox(drive, 0, 1);
        Check.same("done", 1, drive.pass(20));
        Check.same("state of the lost one", 0, drive.orderOf(0, 5));
        Check.same("state of the later one", 2, drive.orderOf(1, 5));
    }
}
