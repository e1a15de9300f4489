/**
 * Boundary cases of the promises 11 to 16. The remark at each test tells the sentence of the document that it holds.
 */
final class ValueEdgeTests {
    private static final int[] WRONG_WHATS = {Integer.MIN_VALUE, -1, 12, Integer.MAX_VALUE};

    private ValueEdgeTests() {
    }

    // ---- promise 11

    /** "`block`: 0 to 15"; "Throws `IndexOutOfBoundsException` if there is no such block" */
    static void promise11BlockRange() {
        Check.range("block", 0, 15, Check.INDEX, ValueEdgeTests::eachBlockItsNumber, WokenDrive::block);
    }

    private static WokenDrive eachBlockItsNumber() {
        WokenDrive drive = new WokenDrive();
        for (int block = 0; block < 16; block++) {
            drive.order(0, block, 0, block, block);
        }
        drive.pass(8);
        return drive;
    }

    // ---- promise 12

    /**
     * "`order`: number of an order": of none, of one and of forty; "Throws `IndexOutOfBoundsException` if there is no
     * such order"
     */
    static void promise12OrderRange() {
        WokenDrive empty = new WokenDrive();
        Check.badIndex(empty, "order 0 of none", () -> empty.orderOf(0, 0));
        Check.outside("order of one", 0, 0, Check.INDEX, ValueEdgeTests::oneOrder,
                (drive, order) -> drive.orderOf(order, 0));
        Check.range("order of forty", 0, 39, Check.INDEX, Drives::full,
                (drive, order) -> drive.orderOf(order, 4) - 1);
    }

    private static WokenDrive oneOrder() {
        WokenDrive drive = new WokenDrive();
        drive.pass(6);
        drive.order(3, 31, 2, 15, 14);
        return drive;
    }

    /**
     * "0 host, 1 number of the tag, 2 kind, 3 block, 4 operand, 5 state, 6 the controller by which it was done (NONE if
     * it is not)"; "Throws `IllegalArgumentException` if what is out of range"
     */
    static void promise12WhatRange() {
        WokenDrive drive = oneOrder();
        Check.orderFacts(drive, 0, 3, 31, 2, 15, 14, 0, -1, 6, -1, 0);
        Check.outside("what", 0, 9, Check.ARGUMENT, ValueEdgeTests::oneOrder, (other, what) -> other.orderOf(0, what));
    }

    /** "6 the controller by which it was done (NONE if it is not)": told, begun, cancelled, and done by either. */
    static void promise12DoerInEachState() {
        for (int one = 0; one < 2; one++) {
            WokenDrive drive = new WokenDrive();
            drive.order(0, 0, 0, 0, 1);
            Check.same("doer of a told one", -1, drive.orderOf(0, 6));
            drive.work(1 - one, 1);
            Check.same("doer of a begun one", -1, drive.orderOf(0, 6));
            drive.work(one, 3);
            Check.same("doer of a done one", one, drive.orderOf(0, 6));
            drive.order(0, 0, 0, 0, 1);
            drive.cancel(0, 0);
            Check.same("doer of a cancelled one", -1, drive.orderOf(1, 6));
        }
    }

    /** "7 the tick at which it was told": from 0 to 9999. */
    static void promise12TickToldAtTheEnds() {
        WokenDrive drive = new WokenDrive();
        drive.order(0, 0, 0, 0, 1);
        Drives.passTo(drive, 9999);
        drive.order(0, 1, 0, 0, 1);
        Check.same("tick told of the first one", 0, drive.orderOf(0, 7));
        Check.same("tick told of the last one", 9999, drive.orderOf(1, 7));
    }

    /** "8 the tick at which it was done (NONE if it is not)": from 0 to 9999. */
    static void promise12TickDoneAtTheEnds() {
        WokenDrive drive = new WokenDrive();
        drive.order(0, 0, 0, 0, 1);
        Check.same("told", -1, drive.orderOf(0, 8));
        drive.work(1, 3);
        Check.same("done at tick 0", 0, drive.orderOf(0, 8));
        Drives.passTo(drive, 9999);
        drive.order(0, 1, 0, 0, 1);
        drive.work(1, 2);
        Check.same("begun", -1, drive.orderOf(1, 8));
        drive.work(0, 2);
        Check.same("done at tick 9999", 9999, drive.orderOf(1, 8));
        drive.order(0, 2, 0, 0, 1);
        drive.cancel(0, 2);
        Check.same("cancelled", -1, drive.orderOf(2, 8));
    }

    /** "9 1 if it was finished in (1) or 0 if not": by the other one, by the same one, or done at once. */
    static void promise12FinishedInOne() {
        WokenDrive drive = new WokenDrive();
        for (int order = 0; order < 3; order++) {
            drive.order(0, order, 0, order, 1);
        }
        drive.work(0, 3);
        drive.work(0, 1);
        Check.same("begun", 0, drive.orderOf(1, 9));
        drive.work(1, 3);
        drive.work(1, 2);
        drive.wake(1);
        drive.work(1, 3);
        Check.same("done at once", 0, drive.orderOf(0, 9));
        Check.same("finished by the other one", 1, drive.orderOf(1, 9));
        Check.same("finished by the same one", 1, drive.orderOf(2, 9));
    }

    /** "If several exceptions of a method apply, the one that is listed first is thrown.": of orderOf. */
    static void promise12WrongOrderGoesBeforeAWrongWhat() {
        for (int what : WRONG_WHATS) {
            Check.outside("order", 0, 0, Check.INDEX, ValueEdgeTests::oneOrder,
                    (drive, order) -> drive.orderOf(order, what));
        }
    }

    // ---- promise 13

    /** "`host`: 0 to 3"; "Throws `IllegalArgumentException` if an argument is out of range" */
    static void promise13HostRange() {
        Check.range("host", 0, 3, Check.ARGUMENT, Drives::ofEveryHost, (drive, host) -> drive.orderWith(host, 31));
    }

    /** "`number`: 0 to 31"; "Throws `IllegalArgumentException` if an argument is out of range" */
    static void promise13NumberRange() {
        Check.range("number", 0, 31, Check.ARGUMENT, Drives::full, (drive, number) -> drive.orderWith(0, number));
    }

    /** "Returns the number of the order; NONE if there is none.": from an empty drive to one of forty orders. */
    static void promise13NoneAndTheLatestOfForty() {
        WokenDrive drive = new WokenDrive();
        Check.same("none", -1, drive.orderWith(0, 0));
        for (int order = 0; order < 40; order++) {
            drive.order(0, 0, 0, 0, 0);
            Check.same("latest", order, drive.orderWith(0, 0));
            Check.same("another number", -1, drive.orderWith(0, 1));
            Check.same("another host", -1, drive.orderWith(1, 0));
            drive.cancel(0, 0);
        }
        Check.same("latest, cancelled", 39, drive.orderWith(0, 0));
    }

    // ---- promise 14

    /** "`controller`: 0 or 1"; "Throws `IndexOutOfBoundsException` if there is no such controller" */
    static void promise14ControllerRange() {
        Check.outside("controller", 0, 1, Check.INDEX, WokenDrive::new, (drive, one) -> drive.controller(one, 0));
        WokenDrive drive = new WokenDrive();
        drive.sleep(1);
        Check.same("awake 0", 1, drive.controller(0, 0));
        Check.same("awake 1", 0, drive.controller(1, 0));
    }

    /**
     * "0 1 if it is awake or 0 if asleep, 1 delay, 2 alarm, 3 orders in its mailbox, 4 of these those that have
     * arrived"; "Throws `IllegalArgumentException` if what is out of range"
     */
    static void promise14WhatRange() {
        for (int one = 0; one < 2; one++) {
            int of = one;
            WokenDrive drive = new WokenDrive();
            drive.order(0, 0, 0, 0, 1);
            drive.order(0, 1, 0, 0, 1);
            drive.setDelay(one, 20);
            drive.setAlarm(one, 19);
            drive.order(0, 2, 0, 0, 1);
            drive.sleep(one);
            Check.controllerFacts(drive, one, 0, 20, 19, 3, 2, 0, 0, 0, 0);
            Check.outside("what", 0, 8, Check.ARGUMENT, WokenDrive::new, (other, what) -> other.controller(of, what));
        }
    }

    /** "5 orders done by it, those of (1), too, 6 orders that it finished in (1)" */
    static void promise14DoneAndFinished() {
        WokenDrive drive = Drives.torn(1);
        Check.controllerFacts(drive, 0, 0, 0, 0, 1, 1, 1, 0, 0, 1);
        Check.controllerFacts(drive, 1, 1, 0, 0, 1, 1, 0, 0, 1, 0);
        drive.work(1, 3);
        Check.controllerFacts(drive, 0, 0, 0, 0, 1, 1, 1, 0, 0, 1);
        Check.controllerFacts(drive, 1, 1, 0, 0, 1, 1, 1, 1, 1, 0);
        WokenDrive other = Drives.torn(1);
        other.wake(0);
        other.work(0, 3);
        Check.controllerFacts(other, 0, 1, 0, 0, 1, 1, 2, 1, 0, 1);
        Check.controllerFacts(other, 1, 1, 0, 0, 1, 1, 0, 0, 1, 0);
    }

    /** "3 orders in its mailbox", "5 orders done by it": from none to forty. */
    static void promise14FromNoneToForty() {
        WokenDrive drive = Drives.full();
        Check.controllerFacts(drive, 0, 1, 0, 0, 40, 40, 0, 0, 0, 0);
        drive.sleep(1);
        drive.pass(40);
        Check.controllerFacts(drive, 0, 1, 0, 0, 0, 0, 40, 0, 0, 0);
        Check.controllerFacts(drive, 1, 0, 0, 0, 40, 40, 0, 0, 0, 0);
    }

    /** "7 its quarrels": not those of the other one; from none to forty, and they stay when the mailbox is empty. */
    static void promise14QuarrelsOfEach() {
        for (int one = 0; one < 2; one++) {
            WokenDrive drive = Drives.full();
            drive.sleep(one);
            drive.pass(40);
            Check.same("quarrels of the sleeper", 0, drive.controller(one, 7));
            drive.wake(one);
            drive.pass(1);
            Check.same("its quarrels", 40, drive.controller(one, 7));
            Check.same("quarrels of the other one", 0, drive.controller(1 - one, 7));
            drive.pass(5);
            Check.same("its quarrels later", 40, drive.controller(one, 7));
        }
    }

    /** "8 how often it fell asleep with an order begun": not how often it was put to sleep. */
    static void promise14OnlyFallsCount() {
        WokenDrive drive = new WokenDrive();
        drive.sleep(0);
        drive.wake(0);
        Check.same("after a sleep", 0, drive.controller(0, 8));
        drive.order(0, 0, 0, 0, 1);
        drive.work(0, 1);
        Check.same("after a fall", 1, drive.controller(0, 8));
        drive.sleep(1);
        drive.wake(0);
        drive.sleep(0);
        Check.same("after a sleep with an order begun", 1, drive.controller(0, 8));
        Check.same("of the other one", 0, drive.controller(1, 8));
    }

    /** "If several exceptions of a method apply, the one that is listed first is thrown.": of controller. */
    static void promise14WrongControllerGoesBeforeAWrongWhat() {
        for (int what : WRONG_WHATS) {
            Check.outside("controller", 0, 1, Check.INDEX, WokenDrive::new,
                    (drive, one) -> drive.controller(one, what));
        }
    }

    // ---- promise 15

    /** "`controller`: 0 or 1"; "Throws `IndexOutOfBoundsException` if there is no such controller" */
    static void promise15ControllerRange() {
        Check.range("controller", 0, 1, Check.INDEX, () -> {
            WokenDrive drive = Drives.full();
            drive.work(1, 3);
            return drive;
        }, (drive, one) -> drive.mail(one, 0));
    }

    /** "`index`: 0 for the first one, and so on": to the last of forty. */
    static void promise15IndexFromTheFirstToTheLast() {
        WokenDrive drive = Drives.full();
        for (int one = 0; one < 2; one++) {
            for (int index = 0; index < 40; index++) {
                Check.same("order", index, drive.mail(one, index));
            }
        }
    }

    /** "Returns the number of the order; NONE if there are not so many.": its number, not that of its tag. */
    static void promise15NumberOfTheOrder() {
        WokenDrive drive = new WokenDrive();
        drive.order(3, 30, 0, 0, 1);
        drive.order(3, 20, 0, 0, 1);
        drive.order(3, 10, 0, 0, 1);
        drive.work(1, 3);
        Check.same("first of 1", 1, drive.mail(1, 0));
        Check.same("second of 1", 2, drive.mail(1, 1));
        Check.same("third of 1", -1, drive.mail(1, 2));
        Check.same("third of 0", 2, drive.mail(0, 2));
    }

    /** "NONE if there are not so many": just behind the end, and far away. */
    static void promise15NoneBehindTheEnd() {
        WokenDrive empty = new WokenDrive();
        Check.same("first of none", -1, empty.mail(0, 0));
        Check.same("greatest index", -1, empty.mail(1, Integer.MAX_VALUE));
        WokenDrive drive = Drives.full();
        Check.same("behind the last of forty", -1, drive.mail(0, 40));
        drive.work(0, 3);
        Check.same("last of 39", 39, drive.mail(0, 38));
        Check.same("behind the last of 39", -1, drive.mail(0, 39));
        Check.same("greatest index", -1, drive.mail(0, Integer.MAX_VALUE));
    }

    /** "Throws `IllegalArgumentException` if index is negative" */
    static void promise15NegativeIndex() {
        WokenDrive empty = new WokenDrive();
        WokenDrive full = Drives.full();
        for (int index : new int[] {-1, -2, Integer.MIN_VALUE}) {
            Check.badArgument(empty, "index of an empty mailbox", () -> empty.mail(0, index));
            Check.badArgument(full, "index of a full mailbox", () -> full.mail(1, index));
        }
    }

    /** "If several exceptions of a method apply, the one that is listed first is thrown.": of mail. */
    static void promise15WrongControllerGoesBeforeANegativeIndex() {
        for (int index : new int[] {-1, Integer.MIN_VALUE}) {
            Check.outside("controller", 0, 1, Check.INDEX, Drives::full, (drive, one) -> drive.mail(one, index));
        }
    }

    // ---- promise 16

    /**
     * "`what`: 0 orders, 1 to 4 the orders in the states 0 to 3, 5 tick, 6 the order of the marker (NONE at first)";
     * "Throws `IllegalArgumentException` if what is out of range"
     */
    static void promise16WhatRange() {
        WokenDrive drive = new WokenDrive();
        Check.wholeFacts(drive, 0, 0, 0, 0, 0, 0, -1, 0, 0, 2, 0, 0);
        Check.outside("what", 0, 11, Check.ARGUMENT, WokenDrive::new, WokenDrive::whole);
        Check.outside("what of a full drive", 0, 11, Check.ARGUMENT, Drives::full, WokenDrive::whole);
    }

    /** "0 orders, 1 to 4 the orders in the states 0 to 3": each of them apart, and all forty in one state. */
    static void promise16OrdersInEachState() {
        WokenDrive drive = Drives.full();
        Check.wholeFacts(drive, 40, 40, 0, 0, 0);
        drive.cancel(0, 0);
        drive.cancel(0, 1);
        drive.pass(2);
        drive.work(0, 1);
        Check.wholeFacts(drive, 40, 33, 1, 4, 2);
        drive.pass(50);
        Check.wholeFacts(drive, 40, 0, 0, 38, 2);
        WokenDrive other = Drives.full();
        other.pass(20);
        Check.wholeFacts(other, 40, 0, 0, 40, 0);
        WokenDrive third = Drives.full();
        for (int order = 0; order < 40; order++) {
            third.cancel(order / 32, order % 32);
        }
        Check.wholeFacts(third, 40, 0, 0, 0, 40);
    }

    /** "5 tick": from 0 to 9999. */
    static void promise16TickAtTheEnds() {
        Check.same("tick", 0, new WokenDrive().whole(5));
        Check.same("tick", 9999, Drives.atTick(9999).whole(5));
    }

    /**
     * "6 the order of the marker (NONE at first), 7 the value of the marker": the marker stays when its order is done.
     */
    static void promise16MarkerStaysWhenItsOrderIsDone() {
        WokenDrive drive = Drives.torn(3);
        drive.pass(9);
        Check.same("order of the marker", 1, drive.whole(6));
        Check.same("value of the marker", 100, drive.whole(7));
    }

    /** "8 quarrels of both" */
    static void promise16QuarrelsOfBothAreAddedUp() {
        WokenDrive drive = Drives.full();
        drive.pass(1);
        Check.same("quarrels", 1, drive.whole(8));
        Check.same("quarrels of 0", 0, drive.controller(0, 7));
        Check.same("quarrels of 1", 1, drive.controller(1, 7));
        drive.pass(1);
        Check.same("quarrels of 0", 2, drive.controller(0, 7));
        Check.same("quarrels of 1", 1, drive.controller(1, 7));
        Check.same("quarrels", 3, drive.whole(8));
    }

    /** "9 controllers that are awake": none, either, both. */
    static void promise16AwakeFromNoneToBoth() {
        WokenDrive drive = Drives.asleep();
        Check.same("awake", 0, drive.whole(9));
        drive.wake(1);
        Check.same("awake", 1, drive.whole(9));
        drive.wake(0);
        Check.same("awake", 2, drive.whole(9));
        drive.sleep(1);
        Check.same("awake", 1, drive.whole(9));
    }

    /** "10 sum of the values of all blocks": from the first block to the last, below zero, too. */
    static void promise16SumOfAllBlocks() {
        WokenDrive drive = new WokenDrive();
        int sum = 0;
        for (int block = 0; block < 16; block++) {
            drive.order(0, block, 0, block, -100 - block * block);
            sum -= 100 + block * block;
        }
        drive.pass(8);
        Check.same("sum", sum, drive.whole(10));
    }

    /** "11 length of the command text": from 0 to 150. */
    static void promise16LengthOfTheText() {
        WokenDrive drive = new WokenDrive();
        for (int length = 0; length < 150; length++) {
            Check.same("length", length, drive.whole(11));
            drive.type(0);
        }
        Check.same("length", 150, drive.whole(11));
    }
}
