/** Promises 1 to 3: a new object, order and cancel. */
final class OrderTests {
    private OrderTests() {
    }

    static void promise01NewObjectIsEmpty() {
        WokenDrive drive = new WokenDrive();
        for (int block = 0; block < 16; block++) {
            Check.same("block", 0, drive.block(block));
            Check.same("final value", 0, drive.finalValue(block));
        }
        Check.wholeFacts(drive, 0, 0, 0, 0, 0, 0, -1, 0, 0, 2, 0, 0);
        Check.controllerFacts(drive, 0, 1, 0, 0, 0, 0, 0, 0, 0, 0);
        Check.controllerFacts(drive, 1, 1, 0, 0, 0, 0, 0, 0, 0, 0);
        Check.mailbox(drive, 0);
        Check.mailbox(drive, 1);
        Check.same("orderWith", -1, drive.orderWith(0, 0));
        Check.badState(drive, "undo", drive::undo);
        Check.badIndex(drive, "orderOf", () -> drive.orderOf(0, 0));
        Check.same("NONE", -1, WokenDrive.NONE);
    }

    static void promise01ObjectsAreApart() {
        WokenDrive drive = new WokenDrive();
        WokenDrive other = new WokenDrive();
        long before = other.digest();
        drive.order(0, 0, 0, 0, 5);
        drive.pass(1);
        drive.type('w');
        Check.same("digest of the other object", before, other.digest());
    }

    static void promise02OrderIsToldToBoth() {
        WokenDrive drive = new WokenDrive();
        drive.pass(3);
        drive.setDelay(1, 4);
        Check.same("first order", 0, drive.order(1, 2, 0, 3, -999));
        Check.same("second order", 1, drive.order(3, 31, 1, 15, 999));
        Check.same("third order", 2, drive.order(0, 0, 2, 15, 14));
        Check.same("fourth order", 3, drive.order(2, 7, 3, 0, 0));
        Check.orderFacts(drive, 0, 1, 2, 0, 3, -999, 0, -1, 3, -1, 0);
        Check.orderFacts(drive, 1, 3, 31, 1, 15, 999, 0, -1, 3, -1, 0);
        Check.orderFacts(drive, 2, 0, 0, 2, 15, 14, 0, -1, 3, -1, 0);
        Check.orderFacts(drive, 3, 2, 7, 3, 0, 0, 0, -1, 3, -1, 0);
        Check.mailbox(drive, 0, 0, 1, 2, 3);
        Check.mailbox(drive, 1, 0, 1, 2, 3);
        Check.same("arrived at 0", 4, drive.controller(0, 4));
        Check.same("arrived at 1", 0, drive.controller(1, 4));
        Check.blocks(drive, 0, 0, 0, 0);
    }

    static void promise02OrderReachesSleepers() {
        WokenDrive drive = new WokenDrive();
        drive.sleep(0);
        drive.order(0, 0, 0, 0, 1);
        Check.mailbox(drive, 0, 0);
    }

    static void promise02ArrivalIsTheTickToldAndTheDelayOfThen() {
        WokenDrive drive = new WokenDrive();
        drive.sleep(0);
        drive.sleep(1);
        drive.pass(2);
        drive.setDelay(0, 3);
        drive.order(0, 0, 0, 0, 1);
        drive.setDelay(0, 0);
        drive.order(0, 1, 0, 1, 1);
        Check.same("arrived at tick 2", 1, drive.controller(0, 4));
        Check.same("taken before the first one", 1, drive.nextFor(0));
        drive.pass(2);
        Check.same("arrived at tick 4", 1, drive.controller(0, 4));
        drive.pass(1);
        Check.same("arrived at tick 5", 2, drive.controller(0, 4));
    }

    static void promise02TagIsToldAnewWhenItsLatestOrderIsOver() {
        WokenDrive drive = new WokenDrive();
        drive.order(1, 1, 0, 0, 1);
        Check.badState(drive, "tag of a told order", () -> drive.order(1, 1, 0, 0, 1));
        Check.same("same number of another host", 1, drive.order(2, 1, 0, 1, 1));
        Check.same("another number of the same host", 2, drive.order(1, 2, 0, 2, 1));
        drive.work(0, 1);
        Check.badState(drive, "tag of a begun order", () -> drive.order(1, 1, 0, 0, 1));
        drive.work(1, 3);
        Check.same("tag of a done order", 3, drive.order(1, 1, 0, 0, 1));
        Check.badState(drive, "tag told anew", () -> drive.order(1, 1, 0, 0, 1));
        drive.cancel(1, 1);
        Check.same("tag of a cancelled order", 4, drive.order(1, 1, 0, 0, 1));
    }

    static void promise02ArgumentsOutOfRange() {
        WokenDrive drive = new WokenDrive();
        Check.badArgument(drive, "host -1", () -> drive.order(-1, 0, 0, 0, 0));
        Check.badArgument(drive, "host 4", () -> drive.order(4, 0, 0, 0, 0));
        Check.badArgument(drive, "number -1", () -> drive.order(0, -1, 0, 0, 0));
        Check.badArgument(drive, "number 32", () -> drive.order(0, 32, 0, 0, 0));
        Check.badArgument(drive, "kind -1", () -> drive.order(0, 0, -1, 0, 0));
        Check.badArgument(drive, "kind 4", () -> drive.order(0, 0, 4, 0, 0));
        for (int kind = 0; kind < 4; kind++) {
            int of = kind;
            Check.badArgument(drive, "block -1", () -> drive.order(0, 0, of, -1, 0));
            Check.badArgument(drive, "block 16", () -> drive.order(0, 0, of, 16, 0));
            Check.badArgument(drive, "operand 1000", () -> drive.order(0, 0, of, 0, 1000));
            Check.badArgument(drive, "operand -1000", () -> drive.order(0, 0, of, 0, -1000));
        }
        Check.badArgument(drive, "copy of block 16", () -> drive.order(0, 0, 2, 0, 16));
        Check.badArgument(drive, "copy of block -1", () -> drive.order(0, 0, 2, 0, -1));
        Check.badArgument(drive, "fence with a block", () -> drive.order(0, 0, 3, 1, 0));
        Check.badArgument(drive, "fence with an operand", () -> drive.order(0, 0, 3, 0, 1));
        Check.badArgument(drive, "fence with an operand", () -> drive.order(0, 0, 3, 0, -1));
        int least = Integer.MIN_VALUE;
        int greatest = Integer.MAX_VALUE;
        Check.badArgument(drive, "least", () -> drive.order(least, least, least, least, least));
        Check.badArgument(drive, "greatest", () -> drive.order(greatest, greatest, greatest, greatest, greatest));
    }

    static void promise02FortyOrdersAtMost() {
        WokenDrive drive = new WokenDrive();
        for (int order = 0; order < 40; order++) {
            Check.same("order", order, drive.order(order / 32, order % 32, 0, order % 16, order));
        }
        Check.badState(drive, "order 40", () -> drive.order(3, 0, 0, 0, 0));
        drive.pass(40);
        Check.badState(drive, "order 40 with all done", () -> drive.order(3, 0, 0, 0, 0));
        Check.badArgument(drive, "wrong order 40", () -> drive.order(4, 0, 0, 0, 0));
        Check.same("orders", 40, drive.whole(0));
    }

    static void promise02WrongArgumentComesBeforeATagInUse() {
        WokenDrive drive = new WokenDrive();
        drive.order(1, 1, 0, 0, 1);
        Check.badArgument(drive, "wrong order of a tag in use", () -> drive.order(1, 1, 0, 16, 1));
    }

    static void promise02EachKindHasItsResult() {
        WokenDrive drive = new WokenDrive();
        drive.order(0, 0, 0, 1, 7);
        drive.order(0, 1, 1, 1, -10);
        drive.order(0, 2, 2, 2, 1);
        drive.order(0, 3, 3, 0, 0);
        drive.order(0, 4, 1, 2, 1);
        drive.order(0, 5, 2, 1, 1);
        drive.pass(3);
        Check.blocks(drive, 0, -3, -2, 0);
        Check.same("done", 6, drive.whole(3));
        drive.order(0, 6, 2, 15, 2);
        drive.order(0, 7, 2, 0, 15);
        drive.order(0, 8, 2, 1, 1);
        drive.pass(2);
        Check.blocks(drive, -2, -3, -2, 0);
        Check.same("block 15", -2, drive.block(15));
    }

    static void promise03CancelEndsTheLatestOrderOfATag() {
        WokenDrive drive = new WokenDrive();
        drive.order(1, 1, 0, 0, 5);
        drive.order(1, 2, 0, 0, 6);
        Check.same("cancelled order", 0, drive.cancel(1, 1));
        Check.same("state", 3, drive.orderOf(0, 5));
        Check.same("doer", -1, drive.orderOf(0, 6));
        Check.same("tick done", -1, drive.orderOf(0, 8));
        Check.mailbox(drive, 0, 0, 1);
        Check.same("next", 1, drive.nextFor(0));
        drive.order(1, 1, 0, 3, 5);
        Check.same("cancelled order", 2, drive.cancel(1, 1));
        Check.wholeFacts(drive, 3, 1, 0, 0, 2);
    }

    static void promise03CancelRefusals() {
        WokenDrive drive = new WokenDrive();
        Check.badArgument(drive, "host -1", () -> drive.cancel(-1, 0));
        Check.badArgument(drive, "host 4", () -> drive.cancel(4, 0));
        Check.badArgument(drive, "number -1", () -> drive.cancel(0, -1));
        Check.badArgument(drive, "number 32", () -> drive.cancel(0, 32));
        Check.badState(drive, "no order", () -> drive.cancel(3, 31));
        drive.order(1, 1, 0, 0, 5);
        Check.badState(drive, "no order of the host", () -> drive.cancel(0, 1));
        Check.badState(drive, "no order of the number", () -> drive.cancel(1, 0));
        drive.work(0, 2);
        Check.badState(drive, "begun order", () -> drive.cancel(1, 1));
        drive.work(1, 1);
        Check.badState(drive, "done order", () -> drive.cancel(1, 1));
        drive.order(1, 1, 0, 0, 5);
        drive.cancel(1, 1);
        Check.badState(drive, "cancelled order", () -> drive.cancel(1, 1));
    }
}
