/** Promises 11 to 16: block, orderOf, orderWith, controller, mail and whole. */
final class ValueTests {
    private ValueTests() {
    }

    static void promise11BlockTellsItsValue() {
        WokenDrive drive = new WokenDrive();
        drive.order(0, 0, 0, 0, 999);
        drive.order(0, 1, 0, 15, -999);
        Check.same("block before", 0, drive.block(15));
        drive.pass(1);
        Check.same("block 0", 999, drive.block(0));
        Check.same("block 15", -999, drive.block(15));
        Check.badIndex(drive, "block(-1)", () -> drive.block(-1));
        Check.badIndex(drive, "block(16)", () -> drive.block(16));
        Check.badIndex(drive, "least", () -> drive.block(Integer.MIN_VALUE));
    }

    static void promise12OrderOfTellsEveryFact() {
        WokenDrive drive = new WokenDrive();
        drive.pass(4);
        drive.order(3, 9, 2, 7, 11);
        drive.pass(1);
        Check.orderFacts(drive, 0, 3, 9, 2, 7, 11, 2, 0, 4, 4, 0);
        drive.order(2, 8, 1, 6, -3);
        drive.work(0, 2);
        Check.orderFacts(drive, 1, 2, 8, 1, 6, -3, 1, -1, 5, -1, 0);
        drive.sleep(1);
        drive.pass(2);
        drive.wake(1);
        drive.work(1, 1);
        Check.orderFacts(drive, 1, 2, 8, 1, 6, -3, 2, 1, 5, 7, 1);
    }

    static void promise12OrderOfRefusals() {
        WokenDrive drive = new WokenDrive();
        Check.badIndex(drive, "orderOf(0, 0)", () -> drive.orderOf(0, 0));
        drive.order(0, 0, 0, 0, 0);
        Check.badIndex(drive, "orderOf(1, 10)", () -> drive.orderOf(1, 10));
        Check.badIndex(drive, "orderOf(-1, 0)", () -> drive.orderOf(-1, 0));
        Check.badIndex(drive, "orderOf(40, 0)", () -> drive.orderOf(40, 0));
        Check.badArgument(drive, "orderOf(0, -1)", () -> drive.orderOf(0, -1));
        Check.badArgument(drive, "orderOf(0, 10)", () -> drive.orderOf(0, 10));
    }

    static void promise12OrderThatWasUndoneIsGone() {
        WokenDrive drive = new WokenDrive();
        drive.order(0, 0, 0, 0, 0);
        drive.undo();
        Check.badIndex(drive, "orderOf(0, 0)", () -> drive.orderOf(0, 0));
    }

    static void promise13OrderWithTellsTheLatest() {
        WokenDrive drive = new WokenDrive();
        Check.same("no order", -1, drive.orderWith(3, 31));
        drive.order(3, 31, 0, 0, 0);
        drive.order(0, 31, 0, 0, 0);
        Check.same("first order", 0, drive.orderWith(3, 31));
        Check.same("another host", -1, drive.orderWith(2, 31));
        Check.same("another number", -1, drive.orderWith(3, 30));
        drive.cancel(3, 31);
        Check.same("cancelled order", 0, drive.orderWith(3, 31));
        drive.order(3, 31, 0, 0, 0);
        Check.same("order told anew", 2, drive.orderWith(3, 31));
        drive.undo();
        Check.same("order told before", 0, drive.orderWith(3, 31));
    }

    static void promise13OrderWithRefusals() {
        WokenDrive drive = new WokenDrive();
        Check.badArgument(drive, "host -1", () -> drive.orderWith(-1, 0));
        Check.badArgument(drive, "host 4", () -> drive.orderWith(4, 0));
        Check.badArgument(drive, "number -1", () -> drive.orderWith(0, -1));
        Check.badArgument(drive, "number 32", () -> drive.orderWith(0, 32));
    }

    static void promise14ControllerTellsEveryFact() {
        WokenDrive drive = new WokenDrive();
        drive.setDelay(1, 2);
        drive.setAlarm(1, 7);
        drive.order(0, 0, 0, 0, 1);
        drive.order(0, 1, 0, 1, 1);
        drive.order(0, 2, 0, 2, 1);
        Check.controllerFacts(drive, 0, 1, 0, 0, 3, 3, 0, 0, 0, 0);
        Check.controllerFacts(drive, 1, 1, 2, 7, 3, 0, 0, 0, 0, 0);
        drive.work(0, 3);
        drive.work(0, 1);
        drive.work(1, 3);
        Check.controllerFacts(drive, 0, 0, 0, 0, 2, 2, 1, 0, 0, 1);
        Check.controllerFacts(drive, 1, 1, 2, 7, 3, 0, 1, 1, 0, 0);
        drive.pass(3);
        Check.controllerFacts(drive, 0, 0, 0, 0, 2, 2, 1, 0, 0, 1);
        Check.controllerFacts(drive, 1, 1, 2, 7, 0, 0, 2, 1, 1, 0);
    }

    static void promise14SleepIsNoFallWithAnOrderBegun() {
        WokenDrive drive = new WokenDrive();
        drive.order(0, 0, 0, 0, 1);
        drive.work(0, 1);
        drive.sleep(1);
        drive.wake(0);
        drive.sleep(0);
        Check.same("falls of 0", 1, drive.controller(0, 8));
        Check.same("falls of 1", 0, drive.controller(1, 8));
    }

    static void promise14ControllerRefusals() {
        WokenDrive drive = new WokenDrive();
        Check.badIndex(drive, "controller(-1, 0)", () -> drive.controller(-1, 0));
        Check.badIndex(drive, "controller(2, 9)", () -> drive.controller(2, 9));
        Check.badArgument(drive, "controller(0, -1)", () -> drive.controller(0, -1));
        Check.badArgument(drive, "controller(1, 9)", () -> drive.controller(1, 9));
    }

    static void promise15MailTellsTheOrdersInTheirOrder() {
        WokenDrive drive = new WokenDrive();
        drive.setDelay(0, 3);
        drive.order(0, 0, 0, 0, 1);
        drive.setDelay(0, 0);
        drive.order(0, 1, 0, 1, 1);
        drive.order(0, 2, 0, 2, 1);
        drive.work(0, 3);
        Check.mailbox(drive, 0, 0, 2);
        Check.mailbox(drive, 1, 0, 1, 2);
        Check.same("far behind the end", -1, drive.mail(0, Integer.MAX_VALUE));
    }

    static void promise15MailRefusals() {
        WokenDrive drive = new WokenDrive();
        Check.badIndex(drive, "mail(-1, 0)", () -> drive.mail(-1, 0));
        Check.badIndex(drive, "mail(2, -1)", () -> drive.mail(2, -1));
        Check.badArgument(drive, "mail(0, -1)", () -> drive.mail(0, -1));
        Check.badArgument(drive, "mail(1, least)", () -> drive.mail(1, Integer.MIN_VALUE));
    }

    static void promise16WholeTellsEveryFact() {
        WokenDrive drive = new WokenDrive();
        drive.order(0, 0, 0, 0, 100);
        drive.order(0, 1, 0, 1, -30);
        drive.order(0, 2, 1, 0, 5);
        drive.order(0, 3, 3, 0, 0);
        drive.order(0, 4, 0, 4, 1);
        drive.cancel(0, 4);
        drive.pass(1);
        Check.wholeFacts(drive, 5, 2, 0, 2, 1, 1, 1, 0, 1, 2, 70, 0);
        drive.work(0, 1);
        Check.type(drive, "abc");
        Check.wholeFacts(drive, 5, 1, 1, 2, 1, 1, 2, 100, 2, 1, 70, 3);
        drive.sleep(1);
        Check.same("awake", 0, drive.whole(9));
    }

    static void promise16WholeRefusals() {
        WokenDrive drive = new WokenDrive();
        Check.badArgument(drive, "whole(-1)", () -> drive.whole(-1));
        Check.badArgument(drive, "whole(12)", () -> drive.whole(12));
    }
}
