import java.util.function.Consumer;
import java.util.function.Supplier;

/** "A call that throws an exception changes nothing.": nothing that shows at once, and nothing that shows later. */
final class RefusalTests {
    private static final int REFUSED = -1000;

    private RefusalTests() {
    }

    /**
     * A drive with something of everything: the orders 0 done, 1 begun, 3 cancelled, and 2, 4 and 5 told, not all
     * arrived, alarms, delays, four saved states, and a text that can be run. Both controllers are asleep.
     */
    private static WokenDrive busy() {
        WokenDrive drive = new WokenDrive();
        drive.setAlarm(0, 7);
        drive.setDelay(1, 2);
        drive.order(0, 0, 0, 1, 100);
        drive.order(0, 1, 1, 1, 7);
        drive.order(0, 2, 2, 2, 1);
        drive.order(0, 3, 0, 3, 5);
        drive.cancel(0, 3);
        drive.pass(1);
        drive.order(1, 0, 1, 2, 11);
        drive.setDelay(0, 1);
        drive.order(1, 1, 3, 0, 0);
        drive.sleep(1);
        drive.work(0, 2);
        Check.type(drive, "wake 1;work 1 3;delay 1 3;put 2 0 4 4;sleep 1;");
        return drive;
    }

    private static WokenDrive busyAndAwake() {
        WokenDrive drive = busy();
        drive.wake(0);
        drive.wake(1);
        return drive;
    }

    private static WokenDrive busyAtTheLastTick() {
        WokenDrive drive = busy();
        Drives.passTo(drive, 9999);
        return drive;
    }

    private static WokenDrive busyAndFull() {
        WokenDrive drive = busy();
        for (int order = 6; order < 40; order++) {
            drive.order(2 + order / 32, order % 32, 0, order % 16, order);
        }
        return drive;
    }

    private static WokenDrive busyWithFullText() {
        WokenDrive drive = busy();
        Check.type(drive, " ".repeat(150 - drive.whole(11)));
        return drive;
    }

    private static WokenDrive busyWithEmptyStack() {
        WokenDrive drive = busy();
        for (int undone = 0; undone < 4; undone++) {
            drive.undo();
        }
        return drive;
    }

    /** Each call is refused on one of two like drives; both have to answer alike from then on. */
    @SafeVarargs
    private static void leaveNoTrace(Supplier<WokenDrive> maker, Consumer<WokenDrive>... calls) {
        for (int index = 0; index < calls.length; index++) {
            String name = "call " + index;
            undoAlike(name, maker.get(), afterRefusal(name, maker.get(), calls[index]));
            runAlike(name, maker.get(), afterRefusal(name, maker.get(), calls[index]));
        }
    }

    private static WokenDrive afterRefusal(String name, WokenDrive drive, Consumer<WokenDrive> call) {
        Check.same(name, REFUSED, answerOf(() -> {
            call.accept(drive);
            return 0;
        }));
        return drive;
    }

    private static long answerOf(Check.Call call) {
        try {
            return call.answer();
        } catch (IndexOutOfBoundsException | IllegalArgumentException | IllegalStateException e) {
            return REFUSED;
        }
    }

    private static void undoAlike(String name, WokenDrive due, WokenDrive got) {
        alike(name, due, got);
        for (int undone = 1; undone <= 5; undone++) {
            Check.same("undo " + undone + " after " + name, answerOf(due::undo), answerOf(got::undo));
            alike("undo " + undone + " after " + name, due, got);
        }
    }

    private static void runAlike(String name, WokenDrive due, WokenDrive got) {
        Check.same("run after " + name, due.runCommands(), got.runCommands());
        alike("the run after " + name, due, got);
        Check.same("length after " + name, due.clearCommands(), got.clearCommands());
        Check.same("pass after " + name, answerOf(() -> due.pass(3)), answerOf(() -> got.pass(3)));
        Check.same("order after " + name, answerOf(() -> due.order(3, 31, 0, 9, 9)),
                answerOf(() -> got.order(3, 31, 0, 9, 9)));
        alike("an order after " + name, due, got);
    }

    private static void alike(String name, WokenDrive due, WokenDrive got) {
        Check.same("digest after " + name, due.digest(), got.digest());
        Check.same("ticks left after " + name, due.doneIn(), got.doneIn());
    }

    /** "A call that throws an exception changes nothing.": order. */
    static void promise02RefusedOrderChangesNothing() {
        leaveNoTrace(RefusalTests::busy, drive -> drive.order(4, 0, 0, 0, 0), drive -> drive.order(0, 32, 0, 0, 0),
                drive -> drive.order(3, 0, 4, 0, 0), drive -> drive.order(3, 0, 0, 16, 0),
                drive -> drive.order(3, 0, 0, 0, 1000), drive -> drive.order(3, 0, 2, 0, 16),
                drive -> drive.order(3, 0, 3, 1, 0), drive -> drive.order(3, 0, 3, 0, 1),
                drive -> drive.order(0, 1, 0, 5, 5), drive -> drive.order(0, 2, 0, 5, 5));
        leaveNoTrace(RefusalTests::busyAndFull, drive -> drive.order(0, 0, 0, 5, 5),
                drive -> drive.order(3, 31, 0, 5, 5));
    }

    /** "A call that throws an exception changes nothing.": cancel. */
    static void promise03RefusedCancelChangesNothing() {
        leaveNoTrace(RefusalTests::busy, drive -> drive.cancel(-1, 0), drive -> drive.cancel(0, -1),
                drive -> drive.cancel(0, 0), drive -> drive.cancel(0, 1), drive -> drive.cancel(0, 3),
                drive -> drive.cancel(3, 3));
    }

    /** "A call that throws an exception changes nothing.": wake and sleep. */
    static void promise04And05RefusedWakeAndSleepChangeNothing() {
        leaveNoTrace(RefusalTests::busyAndAwake, drive -> drive.wake(-1), drive -> drive.wake(2),
                drive -> drive.wake(0), drive -> drive.wake(1));
        leaveNoTrace(RefusalTests::busy, drive -> drive.sleep(-1), drive -> drive.sleep(2), drive -> drive.sleep(0),
                drive -> drive.sleep(1));
    }

    /** "A call that throws an exception changes nothing.": setDelay and setAlarm. */
    static void promise06And07RefusedDelayAndAlarmChangeNothing() {
        leaveNoTrace(RefusalTests::busy, drive -> drive.setDelay(-1, 5), drive -> drive.setDelay(2, 5),
                drive -> drive.setDelay(0, -1), drive -> drive.setDelay(1, 21), drive -> drive.setAlarm(-1, 5),
                drive -> drive.setAlarm(2, 5), drive -> drive.setAlarm(0, -1), drive -> drive.setAlarm(1, 21));
    }

    /** "A call that throws an exception changes nothing.": work. */
    static void promise08RefusedWorkChangesNothing() {
        leaveNoTrace(RefusalTests::busy, drive -> drive.work(0, 3), drive -> drive.work(1, 3),
                drive -> drive.work(0, 0));
        leaveNoTrace(RefusalTests::busyAndAwake, drive -> drive.work(-1, 3), drive -> drive.work(2, 3),
                drive -> drive.work(0, 0), drive -> drive.work(1, 4));
    }

    /** "A call that throws an exception changes nothing.": pass, also where some of its ticks could still pass. */
    static void promise09RefusedPassChangesNothing() {
        leaveNoTrace(RefusalTests::busyAndAwake, drive -> drive.pass(0), drive -> drive.pass(51));
        leaveNoTrace(RefusalTests::busyAtTheLastTick, drive -> drive.pass(1), drive -> drive.pass(50));
        leaveNoTrace(() -> {
            WokenDrive drive = Drives.full();
            drive.sleep(0);
            drive.sleep(1);
            Drives.passTo(drive, 9990);
            drive.wake(0);
            return drive;
        }, drive -> drive.pass(10), drive -> drive.pass(50));
    }

    /** "A call that throws an exception changes nothing.": lose. */
    static void promise10RefusedLossChangesNothing() {
        leaveNoTrace(RefusalTests::busy, drive -> drive.lose(-1), drive -> drive.lose(2));
    }

    /** "A call that throws an exception changes nothing.": the calls that only ask. */
    static void promise11To22RefusedQuestionsChangeNothing() {
        leaveNoTrace(RefusalTests::busy, drive -> drive.block(-1), drive -> drive.block(16),
                drive -> drive.orderOf(-1, 0), drive -> drive.orderOf(6, 0), drive -> drive.orderOf(5, -1),
                drive -> drive.orderOf(5, 10), drive -> drive.orderWith(4, 0), drive -> drive.orderWith(0, 32),
                drive -> drive.controller(2, 0), drive -> drive.controller(0, 9), drive -> drive.mail(2, 0),
                drive -> drive.mail(0, -1), drive -> drive.whole(-1), drive -> drive.whole(12),
                drive -> drive.waitsFor(6), drive -> drive.depth(6), drive -> drive.nextFor(2),
                drive -> drive.reason(2, 0), drive -> drive.reason(0, 6), drive -> drive.finalValue(16));
    }

    /** "A call that throws an exception changes nothing.": type and undo. */
    static void promise23And26RefusedTypeAndUndoChangeNothing() {
        leaveNoTrace(RefusalTests::busy, drive -> drive.type(-1), drive -> drive.type(128));
        leaveNoTrace(RefusalTests::busyWithFullText, drive -> drive.type('x'), drive -> drive.type(128));
        leaveNoTrace(RefusalTests::busyWithEmptyStack, WokenDrive::undo);
    }

    /** "NONE is returned only if no exception applies." */
    static void promiseTermsNoneOnlyIfNoExceptionApplies() {
        WokenDrive drive = new WokenDrive();
        Check.badArgument(drive, "orderWith of no host", () -> drive.orderWith(4, 0));
        Check.badIndex(drive, "mail of no controller", () -> drive.mail(2, 0));
        Check.badArgument(drive, "mail of a negative index", () -> drive.mail(0, -1));
        Check.badIndex(drive, "waitsFor of no order", () -> drive.waitsFor(0));
        Check.badIndex(drive, "depth of no order", () -> drive.depth(0));
        Check.badIndex(drive, "nextFor of no controller", () -> drive.nextFor(2));
        Check.badIndex(drive, "doer of no order", () -> drive.orderOf(0, 6));
        Check.badIndex(drive, "tick done of no order", () -> drive.orderOf(0, 8));
    }
}
